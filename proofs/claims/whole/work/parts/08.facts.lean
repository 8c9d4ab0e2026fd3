theorem zt1 {w : Cond} (h : w ∈ tables_1_1) : w ∈ lw_tbl := List.mem_append_right _ (List.mem_append_left _ h)
theorem zt2 {w : Cond} (h : w ∈ tables_1_2) : w ∈ lw_tbl := List.mem_append_right _ (List.mem_append_right _ (List.mem_append_left _ h))
theorem zt3 {w : Cond} (h : w ∈ tables_1_3) : w ∈ lw_tbl := List.mem_append_right _ (List.mem_append_right _ (List.mem_append_right _ (List.mem_append_left _ h)))
theorem zt4 {w : Cond} (h : w ∈ tables_1_4) : w ∈ lw_tbl := List.mem_append_right _ (List.mem_append_right _ (List.mem_append_right _ (List.mem_append_right _ (List.mem_append_left _ h))))
theorem zt5 {w : Cond} (h : w ∈ tables_1_5) : w ∈ lw_tbl := List.mem_append_right _ (List.mem_append_right _ (List.mem_append_right _ (List.mem_append_right _ (List.mem_append_right _ (List.mem_append_left _ h)))))
theorem zt6 {w : Cond} (h : w ∈ tables_1_6) : w ∈ lw_tbl := List.mem_append_right _ (List.mem_append_right _ (List.mem_append_right _ (List.mem_append_right _ (List.mem_append_right _ (List.mem_append_right _ (List.mem_append_left _ h))))))
theorem zt7 {w : Cond} (h : w ∈ tables_1_7) : w ∈ lw_tbl := List.mem_append_right _ (List.mem_append_right _ (List.mem_append_right _ (List.mem_append_right _ (List.mem_append_right _ (List.mem_append_right _ (List.mem_append_right _ (List.mem_append_left _ h)))))))
theorem zt8 {w : Cond} (h : w ∈ tables_1_8) : w ∈ lw_tbl := List.mem_append_right _ (List.mem_append_right _ (List.mem_append_right _ (List.mem_append_right _ (List.mem_append_right _ (List.mem_append_right _ (List.mem_append_right _ (List.mem_append_right _ (h))))))))
theorem zt0 {w : Cond} (h : w ∈ k2_sels lw_privs) : w ∈ lw_tbl := List.mem_append_left _ h
theorem uwX0 : ∀ w ∈ u_ws RX0 TX0 4, w ∈ zTB := by
  intro w hw
  obtain ⟨k, hk, rfl⟩ := List.mem_map.mp hw
  have hk := List.mem_range.mp hk
  match k, hk with
  | 0, _ => exact zin (zt2 (List.mem_of_getElem? (i := 7) (by decide +kernel))) rfl
  | 1, _ => exact zin (zt2 (List.mem_of_getElem? (i := 9) (by decide +kernel))) rfl
  | 2, _ => exact zin (zt2 (List.mem_of_getElem? (i := 11) (by decide +kernel))) rfl
  | 3, _ => exact zin (zt2 (List.mem_of_getElem? (i := 13) (by decide +kernel))) rfl
  | k + 4, h => exact absurd h (by omega)
theorem uwX1 : ∀ w ∈ u_ws RX1 TX1 2, w ∈ zTB := by
  intro w hw
  obtain ⟨k, hk, rfl⟩ := List.mem_map.mp hw
  have hk := List.mem_range.mp hk
  match k, hk with
  | 0, _ => exact zin (zt1 (List.mem_of_getElem? (i := 190) (by decide +kernel))) rfl
  | 1, _ => exact zin (zt1 (List.mem_of_getElem? (i := 192) (by decide +kernel))) rfl
  | k + 2, h => exact absurd h (by omega)
theorem uwX2 : ∀ w ∈ u_ws RX2 TX2 11, w ∈ zTB := by
  intro w hw
  obtain ⟨k, hk, rfl⟩ := List.mem_map.mp hw
  have hk := List.mem_range.mp hk
  match k, hk with
  | 0, _ => exact zin (zt1 (List.mem_of_getElem? (i := 126) (by decide +kernel))) rfl
  | 1, _ => exact zin (zt1 (List.mem_of_getElem? (i := 128) (by decide +kernel))) rfl
  | 2, _ => exact zin (zt1 (List.mem_of_getElem? (i := 130) (by decide +kernel))) rfl
  | 3, _ => exact zin (zt1 (List.mem_of_getElem? (i := 132) (by decide +kernel))) rfl
  | 4, _ => exact zin (zt1 (List.mem_of_getElem? (i := 134) (by decide +kernel))) rfl
  | 5, _ => exact zin (zt1 (List.mem_of_getElem? (i := 136) (by decide +kernel))) rfl
  | 6, _ => exact zin (zt1 (List.mem_of_getElem? (i := 138) (by decide +kernel))) rfl
  | 7, _ => exact zin (zt1 (List.mem_of_getElem? (i := 140) (by decide +kernel))) rfl
  | 8, _ => exact zin (zt1 (List.mem_of_getElem? (i := 142) (by decide +kernel))) rfl
  | 9, _ => exact zin (zt1 (List.mem_of_getElem? (i := 144) (by decide +kernel))) rfl
  | 10, _ => exact zin (zt1 (List.mem_of_getElem? (i := 146) (by decide +kernel))) rfl
  | k + 11, h => exact absurd h (by omega)
theorem uwX3 : ∀ w ∈ u_ws RX3 TX3 3, w ∈ zTB := by
  intro w hw
  obtain ⟨k, hk, rfl⟩ := List.mem_map.mp hw
  have hk := List.mem_range.mp hk
  match k, hk with
  | 0, _ => exact zin (zt1 (List.mem_of_getElem? (i := 158) (by decide +kernel))) rfl
  | 1, _ => exact zin (zt1 (List.mem_of_getElem? (i := 160) (by decide +kernel))) rfl
  | 2, _ => exact zin (zt1 (List.mem_of_getElem? (i := 162) (by decide +kernel))) rfl
  | k + 3, h => exact absurd h (by omega)
theorem uwX4 : ∀ w ∈ u_ws RX4 TX4 11, w ∈ zTB := by
  intro w hw
  obtain ⟨k, hk, rfl⟩ := List.mem_map.mp hw
  have hk := List.mem_range.mp hk
  match k, hk with
  | 0, _ => exact zin (zt2 (List.mem_of_getElem? (i := 43) (by decide +kernel))) rfl
  | 1, _ => exact zin (zt2 (List.mem_of_getElem? (i := 45) (by decide +kernel))) rfl
  | 2, _ => exact zin (zt2 (List.mem_of_getElem? (i := 47) (by decide +kernel))) rfl
  | 3, _ => exact zin (zt2 (List.mem_of_getElem? (i := 49) (by decide +kernel))) rfl
  | 4, _ => exact zin (zt2 (List.mem_of_getElem? (i := 51) (by decide +kernel))) rfl
  | 5, _ => exact zin (zt2 (List.mem_of_getElem? (i := 53) (by decide +kernel))) rfl
  | 6, _ => exact zin (zt2 (List.mem_of_getElem? (i := 55) (by decide +kernel))) rfl
  | 7, _ => exact zin (zt2 (List.mem_of_getElem? (i := 57) (by decide +kernel))) rfl
  | 8, _ => exact zin (zt2 (List.mem_of_getElem? (i := 59) (by decide +kernel))) rfl
  | 9, _ => exact zin (zt2 (List.mem_of_getElem? (i := 61) (by decide +kernel))) rfl
  | 10, _ => exact zin (zt2 (List.mem_of_getElem? (i := 63) (by decide +kernel))) rfl
  | k + 11, h => exact absurd h (by omega)
theorem uwX5 : ∀ w ∈ u_ws RX5 TX5 8, w ∈ zTB := by
  intro w hw
  obtain ⟨k, hk, rfl⟩ := List.mem_map.mp hw
  have hk := List.mem_range.mp hk
  match k, hk with
  | 0, _ => exact zin (zt1 (List.mem_of_getElem? (i := 211) (by decide +kernel))) rfl
  | 1, _ => exact zin (zt1 (List.mem_of_getElem? (i := 213) (by decide +kernel))) rfl
  | 2, _ => exact zin (zt1 (List.mem_of_getElem? (i := 215) (by decide +kernel))) rfl
  | 3, _ => exact zin (zt1 (List.mem_of_getElem? (i := 217) (by decide +kernel))) rfl
  | 4, _ => exact zin (zt1 (List.mem_of_getElem? (i := 219) (by decide +kernel))) rfl
  | 5, _ => exact zin (zt1 (List.mem_of_getElem? (i := 221) (by decide +kernel))) rfl
  | 6, _ => exact zin (zt1 (List.mem_of_getElem? (i := 223) (by decide +kernel))) rfl
  | 7, _ => exact zin (zt1 (List.mem_of_getElem? (i := 225) (by decide +kernel))) rfl
  | k + 8, h => exact absurd h (by omega)
theorem uwX6 : ∀ w ∈ u_ws RX6 TX6 17, w ∈ zTB := by
  intro w hw
  obtain ⟨k, hk, rfl⟩ := List.mem_map.mp hw
  have hk := List.mem_range.mp hk
  match k, hk with
  | 0, _ => exact zin (zt2 (List.mem_of_getElem? (i := 95) (by decide +kernel))) rfl
  | 1, _ => exact zin (zt2 (List.mem_of_getElem? (i := 97) (by decide +kernel))) rfl
  | 2, _ => exact zin (zt2 (List.mem_of_getElem? (i := 99) (by decide +kernel))) rfl
  | 3, _ => exact zin (zt2 (List.mem_of_getElem? (i := 101) (by decide +kernel))) rfl
  | 4, _ => exact zin (zt2 (List.mem_of_getElem? (i := 103) (by decide +kernel))) rfl
  | 5, _ => exact zin (zt2 (List.mem_of_getElem? (i := 105) (by decide +kernel))) rfl
  | 6, _ => exact zin (zt2 (List.mem_of_getElem? (i := 107) (by decide +kernel))) rfl
  | 7, _ => exact zin (zt2 (List.mem_of_getElem? (i := 109) (by decide +kernel))) rfl
  | 8, _ => exact zin (zt2 (List.mem_of_getElem? (i := 111) (by decide +kernel))) rfl
  | 9, _ => exact zin (zt2 (List.mem_of_getElem? (i := 113) (by decide +kernel))) rfl
  | 10, _ => exact zin (zt2 (List.mem_of_getElem? (i := 115) (by decide +kernel))) rfl
  | 11, _ => exact zin (zt2 (List.mem_of_getElem? (i := 117) (by decide +kernel))) rfl
  | 12, _ => exact zin (zt2 (List.mem_of_getElem? (i := 119) (by decide +kernel))) rfl
  | 13, _ => exact zin (zt2 (List.mem_of_getElem? (i := 121) (by decide +kernel))) rfl
  | 14, _ => exact zin (zt2 (List.mem_of_getElem? (i := 123) (by decide +kernel))) rfl
  | 15, _ => exact zin (zt2 (List.mem_of_getElem? (i := 125) (by decide +kernel))) rfl
  | 16, _ => exact zin (zt2 (List.mem_of_getElem? (i := 127) (by decide +kernel))) rfl
  | k + 17, h => exact absurd h (by omega)
theorem uwX7 : ∀ w ∈ u_ws RX7 TX7 3, w ∈ zTB := by
  intro w hw
  obtain ⟨k, hk, rfl⟩ := List.mem_map.mp hw
  have hk := List.mem_range.mp hk
  match k, hk with
  | 0, _ => exact zin (zt1 (List.mem_of_getElem? (i := 82) (by decide +kernel))) rfl
  | 1, _ => exact zin (zt1 (List.mem_of_getElem? (i := 84) (by decide +kernel))) rfl
  | 2, _ => exact zin (zt1 (List.mem_of_getElem? (i := 86) (by decide +kernel))) rfl
  | k + 3, h => exact absurd h (by omega)
theorem uwX8 : ∀ w ∈ u_ws RX8 TX8 2, w ∈ zTB := by
  intro w hw
  obtain ⟨k, hk, rfl⟩ := List.mem_map.mp hw
  have hk := List.mem_range.mp hk
  match k, hk with
  | 0, _ => exact zin (zt1 (List.mem_of_getElem? (i := 68) (by decide +kernel))) rfl
  | 1, _ => exact zin (zt1 (List.mem_of_getElem? (i := 70) (by decide +kernel))) rfl
  | k + 2, h => exact absurd h (by omega)
theorem uwX9 : ∀ w ∈ u_ws RX9 TX9 5, w ∈ zTB := by
  intro w hw
  obtain ⟨k, hk, rfl⟩ := List.mem_map.mp hw
  have hk := List.mem_range.mp hk
  match k, hk with
  | 0, _ => exact zin (zt1 (List.mem_of_getElem? (i := 42) (by decide +kernel))) rfl
  | 1, _ => exact zin (zt1 (List.mem_of_getElem? (i := 44) (by decide +kernel))) rfl
  | 2, _ => exact zin (zt1 (List.mem_of_getElem? (i := 46) (by decide +kernel))) rfl
  | 3, _ => exact zin (zt1 (List.mem_of_getElem? (i := 48) (by decide +kernel))) rfl
  | 4, _ => exact zin (zt1 (List.mem_of_getElem? (i := 50) (by decide +kernel))) rfl
  | k + 5, h => exact absurd h (by omega)
theorem uwX10 : ∀ w ∈ u_ws RX10 TX10 9, w ∈ zTB := by
  intro w hw
  obtain ⟨k, hk, rfl⟩ := List.mem_map.mp hw
  have hk := List.mem_range.mp hk
  match k, hk with
  | 0, _ => exact zin (zt2 (List.mem_of_getElem? (i := 150) (by decide +kernel))) rfl
  | 1, _ => exact zin (zt2 (List.mem_of_getElem? (i := 152) (by decide +kernel))) rfl
  | 2, _ => exact zin (zt2 (List.mem_of_getElem? (i := 154) (by decide +kernel))) rfl
  | 3, _ => exact zin (zt2 (List.mem_of_getElem? (i := 156) (by decide +kernel))) rfl
  | 4, _ => exact zin (zt2 (List.mem_of_getElem? (i := 158) (by decide +kernel))) rfl
  | 5, _ => exact zin (zt2 (List.mem_of_getElem? (i := 160) (by decide +kernel))) rfl
  | 6, _ => exact zin (zt2 (List.mem_of_getElem? (i := 162) (by decide +kernel))) rfl
  | 7, _ => exact zin (zt2 (List.mem_of_getElem? (i := 164) (by decide +kernel))) rfl
  | 8, _ => exact zin (zt2 (List.mem_of_getElem? (i := 166) (by decide +kernel))) rfl
  | k + 9, h => exact absurd h (by omega)
theorem uwX11 : ∀ w ∈ u_ws RX11 TX11 18, w ∈ zTB := by
  intro w hw
  obtain ⟨k, hk, rfl⟩ := List.mem_map.mp hw
  have hk := List.mem_range.mp hk
  match k, hk with
  | 0, _ => exact zin (zt2 (List.mem_of_getElem? (i := 189) (by decide +kernel))) rfl
  | 1, _ => exact zin (zt2 (List.mem_of_getElem? (i := 191) (by decide +kernel))) rfl
  | 2, _ => exact zin (zt2 (List.mem_of_getElem? (i := 193) (by decide +kernel))) rfl
  | 3, _ => exact zin (zt2 (List.mem_of_getElem? (i := 195) (by decide +kernel))) rfl
  | 4, _ => exact zin (zt2 (List.mem_of_getElem? (i := 197) (by decide +kernel))) rfl
  | 5, _ => exact zin (zt2 (List.mem_of_getElem? (i := 199) (by decide +kernel))) rfl
  | 6, _ => exact zin (zt2 (List.mem_of_getElem? (i := 201) (by decide +kernel))) rfl
  | 7, _ => exact zin (zt2 (List.mem_of_getElem? (i := 203) (by decide +kernel))) rfl
  | 8, _ => exact zin (zt2 (List.mem_of_getElem? (i := 205) (by decide +kernel))) rfl
  | 9, _ => exact zin (zt2 (List.mem_of_getElem? (i := 207) (by decide +kernel))) rfl
  | 10, _ => exact zin (zt2 (List.mem_of_getElem? (i := 209) (by decide +kernel))) rfl
  | 11, _ => exact zin (zt2 (List.mem_of_getElem? (i := 211) (by decide +kernel))) rfl
  | 12, _ => exact zin (zt2 (List.mem_of_getElem? (i := 213) (by decide +kernel))) rfl
  | 13, _ => exact zin (zt2 (List.mem_of_getElem? (i := 215) (by decide +kernel))) rfl
  | 14, _ => exact zin (zt2 (List.mem_of_getElem? (i := 217) (by decide +kernel))) rfl
  | 15, _ => exact zin (zt2 (List.mem_of_getElem? (i := 219) (by decide +kernel))) rfl
  | 16, _ => exact zin (zt2 (List.mem_of_getElem? (i := 221) (by decide +kernel))) rfl
  | 17, _ => exact zin (zt2 (List.mem_of_getElem? (i := 223) (by decide +kernel))) rfl
  | k + 18, h => exact absurd h (by omega)
theorem uwX12 : ∀ w ∈ u_ws RX12 TX12 59, w ∈ zTB := by
  intro w hw
  obtain ⟨k, hk, rfl⟩ := List.mem_map.mp hw
  have hk := List.mem_range.mp hk
  match k, hk with
  | 0, _ => exact zin (zt6 (List.mem_of_getElem? (i := 95) (by decide +kernel))) rfl
  | 1, _ => exact zin (zt6 (List.mem_of_getElem? (i := 97) (by decide +kernel))) rfl
  | 2, _ => exact zin (zt6 (List.mem_of_getElem? (i := 99) (by decide +kernel))) rfl
  | 3, _ => exact zin (zt6 (List.mem_of_getElem? (i := 101) (by decide +kernel))) rfl
  | 4, _ => exact zin (zt6 (List.mem_of_getElem? (i := 103) (by decide +kernel))) rfl
  | 5, _ => exact zin (zt6 (List.mem_of_getElem? (i := 105) (by decide +kernel))) rfl
  | 6, _ => exact zin (zt6 (List.mem_of_getElem? (i := 107) (by decide +kernel))) rfl
  | 7, _ => exact zin (zt6 (List.mem_of_getElem? (i := 109) (by decide +kernel))) rfl
  | 8, _ => exact zin (zt6 (List.mem_of_getElem? (i := 111) (by decide +kernel))) rfl
  | 9, _ => exact zin (zt6 (List.mem_of_getElem? (i := 113) (by decide +kernel))) rfl
  | 10, _ => exact zin (zt6 (List.mem_of_getElem? (i := 115) (by decide +kernel))) rfl
  | 11, _ => exact zin (zt6 (List.mem_of_getElem? (i := 117) (by decide +kernel))) rfl
  | 12, _ => exact zin (zt6 (List.mem_of_getElem? (i := 119) (by decide +kernel))) rfl
  | 13, _ => exact zin (zt6 (List.mem_of_getElem? (i := 121) (by decide +kernel))) rfl
  | 14, _ => exact zin (zt6 (List.mem_of_getElem? (i := 123) (by decide +kernel))) rfl
  | 15, _ => exact zin (zt6 (List.mem_of_getElem? (i := 125) (by decide +kernel))) rfl
  | 16, _ => exact zin (zt6 (List.mem_of_getElem? (i := 127) (by decide +kernel))) rfl
  | 17, _ => exact zin (zt6 (List.mem_of_getElem? (i := 129) (by decide +kernel))) rfl
  | 18, _ => exact zin (zt6 (List.mem_of_getElem? (i := 131) (by decide +kernel))) rfl
  | 19, _ => exact zin (zt6 (List.mem_of_getElem? (i := 133) (by decide +kernel))) rfl
  | 20, _ => exact zin (zt6 (List.mem_of_getElem? (i := 135) (by decide +kernel))) rfl
  | 21, _ => exact zin (zt6 (List.mem_of_getElem? (i := 137) (by decide +kernel))) rfl
  | 22, _ => exact zin (zt6 (List.mem_of_getElem? (i := 139) (by decide +kernel))) rfl
  | 23, _ => exact zin (zt6 (List.mem_of_getElem? (i := 141) (by decide +kernel))) rfl
  | 24, _ => exact zin (zt6 (List.mem_of_getElem? (i := 143) (by decide +kernel))) rfl
  | 25, _ => exact zin (zt6 (List.mem_of_getElem? (i := 145) (by decide +kernel))) rfl
  | 26, _ => exact zin (zt6 (List.mem_of_getElem? (i := 147) (by decide +kernel))) rfl
  | 27, _ => exact zin (zt6 (List.mem_of_getElem? (i := 149) (by decide +kernel))) rfl
  | 28, _ => exact zin (zt6 (List.mem_of_getElem? (i := 151) (by decide +kernel))) rfl
  | 29, _ => exact zin (zt6 (List.mem_of_getElem? (i := 153) (by decide +kernel))) rfl
  | 30, _ => exact zin (zt6 (List.mem_of_getElem? (i := 155) (by decide +kernel))) rfl
  | 31, _ => exact zin (zt6 (List.mem_of_getElem? (i := 157) (by decide +kernel))) rfl
  | 32, _ => exact zin (zt6 (List.mem_of_getElem? (i := 159) (by decide +kernel))) rfl
  | 33, _ => exact zin (zt6 (List.mem_of_getElem? (i := 161) (by decide +kernel))) rfl
  | 34, _ => exact zin (zt6 (List.mem_of_getElem? (i := 163) (by decide +kernel))) rfl
  | 35, _ => exact zin (zt6 (List.mem_of_getElem? (i := 165) (by decide +kernel))) rfl
  | 36, _ => exact zin (zt6 (List.mem_of_getElem? (i := 167) (by decide +kernel))) rfl
  | 37, _ => exact zin (zt6 (List.mem_of_getElem? (i := 169) (by decide +kernel))) rfl
  | 38, _ => exact zin (zt6 (List.mem_of_getElem? (i := 171) (by decide +kernel))) rfl
  | 39, _ => exact zin (zt6 (List.mem_of_getElem? (i := 173) (by decide +kernel))) rfl
  | 40, _ => exact zin (zt6 (List.mem_of_getElem? (i := 175) (by decide +kernel))) rfl
  | 41, _ => exact zin (zt6 (List.mem_of_getElem? (i := 177) (by decide +kernel))) rfl
  | 42, _ => exact zin (zt6 (List.mem_of_getElem? (i := 179) (by decide +kernel))) rfl
  | 43, _ => exact zin (zt6 (List.mem_of_getElem? (i := 181) (by decide +kernel))) rfl
  | 44, _ => exact zin (zt6 (List.mem_of_getElem? (i := 183) (by decide +kernel))) rfl
  | 45, _ => exact zin (zt6 (List.mem_of_getElem? (i := 185) (by decide +kernel))) rfl
  | 46, _ => exact zin (zt6 (List.mem_of_getElem? (i := 187) (by decide +kernel))) rfl
  | 47, _ => exact zin (zt6 (List.mem_of_getElem? (i := 189) (by decide +kernel))) rfl
  | 48, _ => exact zin (zt6 (List.mem_of_getElem? (i := 191) (by decide +kernel))) rfl
  | 49, _ => exact zin (zt6 (List.mem_of_getElem? (i := 193) (by decide +kernel))) rfl
  | 50, _ => exact zin (zt6 (List.mem_of_getElem? (i := 195) (by decide +kernel))) rfl
  | 51, _ => exact zin (zt6 (List.mem_of_getElem? (i := 197) (by decide +kernel))) rfl
  | 52, _ => exact zin (zt6 (List.mem_of_getElem? (i := 199) (by decide +kernel))) rfl
  | 53, _ => exact zin (zt6 (List.mem_of_getElem? (i := 201) (by decide +kernel))) rfl
  | 54, _ => exact zin (zt6 (List.mem_of_getElem? (i := 203) (by decide +kernel))) rfl
  | 55, _ => exact zin (zt6 (List.mem_of_getElem? (i := 205) (by decide +kernel))) rfl
  | 56, _ => exact zin (zt6 (List.mem_of_getElem? (i := 207) (by decide +kernel))) rfl
  | 57, _ => exact zin (zt6 (List.mem_of_getElem? (i := 209) (by decide +kernel))) rfl
  | 58, _ => exact zin (zt6 (List.mem_of_getElem? (i := 211) (by decide +kernel))) rfl
  | k + 59, h => exact absurd h (by omega)
abbrev mX0_init : zM := (yX0_init, cX0_init, 1, none, 2, 40, 2, 4)
theorem kcX0_init : zCal mX0_init 0 := ⟨zin (zt1 (List.mem_of_getElem? (i := 233) rfl)) rfl, zin (zt1 (List.mem_of_getElem? (i := 10) (by decide +kernel))) rfl, ⟨by decide +kernel, by decide +kernel, by decide +kernel⟩, by decide +kernel⟩
theorem imX0_init : Cond.instanceMethod yX0_init ∈ zTB := zin (zt1 (List.mem_of_getElem? (i := 232) (by decide +kernel))) rfl
abbrev mX0_missed : zM := (yX0_missed, cX0_missed, 5, some .int, 1, 21, 0, 0)
theorem kcX0_missed : zCal mX0_missed 2 := ⟨zin (zt4 (List.mem_of_getElem? (i := 140) rfl)) rfl, zin (zt1 (List.mem_of_getElem? (i := 10) (by decide +kernel))) rfl, ⟨by decide +kernel, by decide +kernel, by decide +kernel⟩, by decide +kernel⟩
theorem viX0_missed : zVir mX0_missed 0 := ⟨zin (zt4 (List.mem_of_getElem? (i := 138) (by decide +kernel))) rfl, zin (zt4 (List.mem_of_getElem? (i := 139) (by decide +kernel))) rfl, _, _, rfl⟩
theorem imX0_missed : Cond.instanceMethod yX0_missed ∈ zTB := zin (zt4 (List.mem_of_getElem? (i := 138) (by decide +kernel))) rfl
abbrev mX0_over : zM := (yX0_over, cX0_over, 5, some .int, 1, 21, 0, 0)
theorem kcX0_over : zCal mX0_over 2 := ⟨zin (zt4 (List.mem_of_getElem? (i := 151) rfl)) rfl, zin (zt1 (List.mem_of_getElem? (i := 10) (by decide +kernel))) rfl, ⟨by decide +kernel, by decide +kernel, by decide +kernel⟩, by decide +kernel⟩
theorem viX0_over : zVir mX0_over 0 := ⟨zin (zt4 (List.mem_of_getElem? (i := 149) (by decide +kernel))) rfl, zin (zt4 (List.mem_of_getElem? (i := 150) (by decide +kernel))) rfl, _, _, rfl⟩
theorem imX0_over : Cond.instanceMethod yX0_over ∈ zTB := zin (zt4 (List.mem_of_getElem? (i := 149) (by decide +kernel))) rfl
abbrev mX0_offOf : zM := (yX0_offOf, cX0_offOf, 5, some .int, 2, 45, 0, 0)
theorem kcX0_offOf : zCal mX0_offOf 2 := ⟨zin (zt4 (List.mem_of_getElem? (i := 146) rfl)) rfl, zin (zt1 (List.mem_of_getElem? (i := 10) (by decide +kernel))) rfl, ⟨by decide +kernel, by decide +kernel, by decide +kernel⟩, by decide +kernel⟩
theorem viX0_offOf : zVir mX0_offOf 0 := ⟨zin (zt4 (List.mem_of_getElem? (i := 144) (by decide +kernel))) rfl, zin (zt4 (List.mem_of_getElem? (i := 145) (by decide +kernel))) rfl, _, _, rfl⟩
theorem imX0_offOf : Cond.instanceMethod yX0_offOf ∈ zTB := zin (zt4 (List.mem_of_getElem? (i := 144) (by decide +kernel))) rfl
abbrev mX0_digestOn : zM := (yX0_digestOn, cX0_digestOn, 3, some .long, 2, 46, 0, 0)
theorem kcX0_digestOn : zCal mX0_digestOn 1 := ⟨zin (zt6 (List.mem_of_getElem? (i := 12) rfl)) rfl, zin (zt1 (List.mem_of_getElem? (i := 10) (by decide +kernel))) rfl, ⟨by decide +kernel, by decide +kernel, by decide +kernel⟩, by decide +kernel⟩
theorem viX0_digestOn : zVir mX0_digestOn 0 := ⟨zin (zt6 (List.mem_of_getElem? (i := 10) (by decide +kernel))) rfl, zin (zt6 (List.mem_of_getElem? (i := 11) (by decide +kernel))) rfl, _, _, rfl⟩
theorem imX0_digestOn : Cond.instanceMethod yX0_digestOn ∈ zTB := zin (zt6 (List.mem_of_getElem? (i := 10) (by decide +kernel))) rfl
abbrev mX1_init : zM := (yX1_init, cX1_init, 1, none, 1, 20, 0, 0)
theorem kcX1_init : zCal mX1_init 0 := ⟨zin (zt1 (List.mem_of_getElem? (i := 176) rfl)) rfl, zin (zt1 (List.mem_of_getElem? (i := 9) (by decide +kernel))) rfl, ⟨by decide +kernel, by decide +kernel, by decide +kernel⟩, by decide +kernel⟩
theorem imX1_init : Cond.instanceMethod yX1_init ∈ zTB := zin (zt1 (List.mem_of_getElem? (i := 175) (by decide +kernel))) rfl
abbrev mX1_clear : zM := (yX1_clear, cX1_clear, 1, none, 0, 0, 0, 0)
theorem kcX1_clear : zCal mX1_clear 0 := ⟨zin (zt3 (List.mem_of_getElem? (i := 166) rfl)) rfl, zin (zt1 (List.mem_of_getElem? (i := 9) (by decide +kernel))) rfl, ⟨by decide +kernel, by decide +kernel, by decide +kernel⟩, by decide +kernel⟩
theorem viX1_clear : zVir mX1_clear 1 := ⟨zin (zt3 (List.mem_of_getElem? (i := 164) (by decide +kernel))) rfl, zin (zt3 (List.mem_of_getElem? (i := 165) (by decide +kernel))) rfl, _, _, rfl⟩
theorem imX1_clear : Cond.instanceMethod yX1_clear ∈ zTB := zin (zt3 (List.mem_of_getElem? (i := 164) (by decide +kernel))) rfl
abbrev mX1_become : zM := (yX1_become, cX1_become, 2, none, 0, 0, 0, 0)
theorem kcX1_become : zCal mX1_become 1 := ⟨zin (zt4 (List.mem_of_getElem? (i := 203) rfl)) rfl, zin (zt1 (List.mem_of_getElem? (i := 9) (by decide +kernel))) rfl, ⟨by decide +kernel, by decide +kernel, by decide +kernel⟩, by decide +kernel⟩
theorem viX1_become : zVir mX1_become 1 := ⟨zin (zt4 (List.mem_of_getElem? (i := 201) (by decide +kernel))) rfl, zin (zt4 (List.mem_of_getElem? (i := 202) (by decide +kernel))) rfl, _, _, rfl⟩
theorem imX1_become : Cond.instanceMethod yX1_become ∈ zTB := zin (zt4 (List.mem_of_getElem? (i := 201) (by decide +kernel))) rfl
abbrev mX1_join : zM := (yX1_join, cX1_join, 5, none, 0, 0, 0, 0)
theorem kcX1_join : zCal mX1_join 2 := ⟨zin (zt4 (List.mem_of_getElem? (i := 125) rfl)) rfl, zin (zt1 (List.mem_of_getElem? (i := 9) (by decide +kernel))) rfl, ⟨by decide +kernel, by decide +kernel, by decide +kernel⟩, by decide +kernel⟩
theorem viX1_join : zVir mX1_join 1 := ⟨zin (zt4 (List.mem_of_getElem? (i := 123) (by decide +kernel))) rfl, zin (zt4 (List.mem_of_getElem? (i := 124) (by decide +kernel))) rfl, _, _, rfl⟩
theorem imX1_join : Cond.instanceMethod yX1_join ∈ zTB := zin (zt4 (List.mem_of_getElem? (i := 123) (by decide +kernel))) rfl
abbrev mX1_leave : zM := (yX1_leave, cX1_leave, 2, none, 0, 0, 0, 0)
theorem kcX1_leave : zCal mX1_leave 1 := ⟨zin (zt4 (List.mem_of_getElem? (i := 207) rfl)) rfl, zin (zt1 (List.mem_of_getElem? (i := 9) (by decide +kernel))) rfl, ⟨by decide +kernel, by decide +kernel, by decide +kernel⟩, by decide +kernel⟩
theorem viX1_leave : zVir mX1_leave 1 := ⟨zin (zt4 (List.mem_of_getElem? (i := 205) (by decide +kernel))) rfl, zin (zt4 (List.mem_of_getElem? (i := 206) (by decide +kernel))) rfl, _, _, rfl⟩
theorem imX1_leave : Cond.instanceMethod yX1_leave ∈ zTB := zin (zt4 (List.mem_of_getElem? (i := 205) (by decide +kernel))) rfl
abbrev mX1_has : zM := (yX1_has, cX1_has, 2, some .boolean, 0, 0, 0, 0)
theorem kcX1_has : zCal mX1_has 1 := ⟨zin (zt5 (List.mem_of_getElem? (i := 52) rfl)) rfl, zin (zt1 (List.mem_of_getElem? (i := 9) (by decide +kernel))) rfl, ⟨by decide +kernel, by decide +kernel, by decide +kernel⟩, by decide +kernel⟩
theorem viX1_has : zVir mX1_has 1 := ⟨zin (zt5 (List.mem_of_getElem? (i := 50) (by decide +kernel))) rfl, zin (zt5 (List.mem_of_getElem? (i := 51) (by decide +kernel))) rfl, _, _, rfl⟩
theorem imX1_has : Cond.instanceMethod yX1_has ∈ zTB := zin (zt5 (List.mem_of_getElem? (i := 50) (by decide +kernel))) rfl
abbrev mX1_is : zM := (yX1_is, cX1_is, 5, some .boolean, 0, 0, 0, 0)
theorem kcX1_is : zCal mX1_is 2 := ⟨zin (zt4 (List.mem_of_getElem? (i := 224) rfl)) rfl, zin (zt1 (List.mem_of_getElem? (i := 9) (by decide +kernel))) rfl, ⟨by decide +kernel, by decide +kernel, by decide +kernel⟩, by decide +kernel⟩
theorem viX1_is : zVir mX1_is 1 := ⟨zin (zt4 (List.mem_of_getElem? (i := 222) (by decide +kernel))) rfl, zin (zt4 (List.mem_of_getElem? (i := 223) (by decide +kernel))) rfl, _, _, rfl⟩
theorem imX1_is : Cond.instanceMethod yX1_is ∈ zTB := zin (zt4 (List.mem_of_getElem? (i := 222) (by decide +kernel))) rfl
abbrev mX1_number : zM := (yX1_number, cX1_number, 1, some .int, 1, 21, 0, 0)
theorem kcX1_number : zCal mX1_number 0 := ⟨zin (zt4 (List.mem_of_getElem? (i := 56) rfl)) rfl, zin (zt1 (List.mem_of_getElem? (i := 9) (by decide +kernel))) rfl, ⟨by decide +kernel, by decide +kernel, by decide +kernel⟩, by decide +kernel⟩
theorem viX1_number : zVir mX1_number 1 := ⟨zin (zt4 (List.mem_of_getElem? (i := 54) (by decide +kernel))) rfl, zin (zt4 (List.mem_of_getElem? (i := 55) (by decide +kernel))) rfl, _, _, rfl⟩
theorem imX1_number : Cond.instanceMethod yX1_number ∈ zTB := zin (zt4 (List.mem_of_getElem? (i := 54) (by decide +kernel))) rfl
abbrev mX1_isCell : zM := (yX1_isCell, cX1_isCell, 2, some .boolean, 0, 0, 0, 0)
theorem kcX1_isCell : zCal mX1_isCell 2 := ⟨zin (zt3 (List.mem_of_getElem? (i := 181) rfl)) rfl, zin (zt1 (List.mem_of_getElem? (i := 9) (by decide +kernel))) rfl, ⟨by decide +kernel, by decide +kernel, by decide +kernel⟩, by decide +kernel⟩
theorem smX1_isCell : Cond.static yX1_isCell ∈ zTB := zin (zt3 (List.mem_of_getElem? (i := 180) (by decide +kernel))) rfl
abbrev mX1_addNew : zM := (yX1_addNew, cX1_addNew, 7, some .boolean, 1, 22, 0, 0)
theorem kcX1_addNew : zCal mX1_addNew 2 := ⟨zin (zt3 (List.mem_of_getElem? (i := 178) rfl)) rfl, zin (zt1 (List.mem_of_getElem? (i := 9) (by decide +kernel))) rfl, ⟨by decide +kernel, by decide +kernel, by decide +kernel⟩, by decide +kernel⟩
theorem viX1_addNew : zVir mX1_addNew 1 := ⟨zin (zt3 (List.mem_of_getElem? (i := 176) (by decide +kernel))) rfl, zin (zt3 (List.mem_of_getElem? (i := 177) (by decide +kernel))) rfl, _, _, rfl⟩
theorem imX1_addNew : Cond.instanceMethod yX1_addNew ∈ zTB := zin (zt3 (List.mem_of_getElem? (i := 176) (by decide +kernel))) rfl
abbrev mX1_line : zM := (yX1_line, cX1_line, 4, some .int, 0, 0, 0, 0)
theorem kcX1_line : zCal mX1_line 1 := ⟨zin (zt4 (List.mem_of_getElem? (i := 91) rfl)) rfl, zin (zt1 (List.mem_of_getElem? (i := 9) (by decide +kernel))) rfl, ⟨by decide +kernel, by decide +kernel, by decide +kernel⟩, by decide +kernel⟩
theorem viX1_line : zVir mX1_line 1 := ⟨zin (zt4 (List.mem_of_getElem? (i := 89) (by decide +kernel))) rfl, zin (zt4 (List.mem_of_getElem? (i := 90) (by decide +kernel))) rfl, _, _, rfl⟩
theorem imX1_line : Cond.instanceMethod yX1_line ∈ zTB := zin (zt4 (List.mem_of_getElem? (i := 89) (by decide +kernel))) rfl
abbrev mX1_addLine : zM := (yX1_addLine, cX1_addLine, 3, none, 0, 0, 0, 0)
theorem kcX1_addLine : zCal mX1_addLine 2 := ⟨zin (zt3 (List.mem_of_getElem? (i := 185) rfl)) rfl, zin (zt1 (List.mem_of_getElem? (i := 9) (by decide +kernel))) rfl, ⟨by decide +kernel, by decide +kernel, by decide +kernel⟩, by decide +kernel⟩
theorem viX1_addLine : zVir mX1_addLine 1 := ⟨zin (zt3 (List.mem_of_getElem? (i := 183) (by decide +kernel))) rfl, zin (zt3 (List.mem_of_getElem? (i := 184) (by decide +kernel))) rfl, _, _, rfl⟩
theorem imX1_addLine : Cond.instanceMethod yX1_addLine ∈ zTB := zin (zt3 (List.mem_of_getElem? (i := 183) (by decide +kernel))) rfl
abbrev mX1_digestOn : zM := (yX1_digestOn, cX1_digestOn, 4, some .long, 1, 23, 0, 0)
theorem kcX1_digestOn : zCal mX1_digestOn 1 := ⟨zin (zt6 (List.mem_of_getElem? (i := 17) rfl)) rfl, zin (zt1 (List.mem_of_getElem? (i := 9) (by decide +kernel))) rfl, ⟨by decide +kernel, by decide +kernel, by decide +kernel⟩, by decide +kernel⟩
theorem viX1_digestOn : zVir mX1_digestOn 1 := ⟨zin (zt6 (List.mem_of_getElem? (i := 15) (by decide +kernel))) rfl, zin (zt6 (List.mem_of_getElem? (i := 16) (by decide +kernel))) rfl, _, _, rfl⟩
theorem imX1_digestOn : Cond.instanceMethod yX1_digestOn ∈ zTB := zin (zt6 (List.mem_of_getElem? (i := 15) (by decide +kernel))) rfl
abbrev mX2_init : zM := (yX2_init, cX2_init, 1, none, 1, 20, 8, 44)
theorem kcX2_init : zCal mX2_init 0 := ⟨zin (zt1 (List.mem_of_getElem? (i := 93) rfl)) rfl, zin (zt1 (List.mem_of_getElem? (i := 6) (by decide +kernel))) rfl, ⟨by decide +kernel, by decide +kernel, by decide +kernel⟩, by decide +kernel⟩
theorem imX2_init : Cond.instanceMethod yX2_init ∈ zTB := zin (zt1 (List.mem_of_getElem? (i := 92) (by decide +kernel))) rfl
abbrev mX2_clear : zM := (yX2_clear, cX2_clear, 1, none, 0, 0, 0, 0)
theorem kcX2_clear : zCal mX2_clear 0 := ⟨zin (zt3 (List.mem_of_getElem? (i := 85) rfl)) rfl, zin (zt1 (List.mem_of_getElem? (i := 6) (by decide +kernel))) rfl, ⟨by decide +kernel, by decide +kernel, by decide +kernel⟩, by decide +kernel⟩
theorem viX2_clear : zVir mX2_clear 2 := ⟨zin (zt3 (List.mem_of_getElem? (i := 83) (by decide +kernel))) rfl, zin (zt3 (List.mem_of_getElem? (i := 84) (by decide +kernel))) rfl, _, _, rfl⟩
theorem imX2_clear : Cond.instanceMethod yX2_clear ∈ zTB := zin (zt3 (List.mem_of_getElem? (i := 83) (by decide +kernel))) rfl
abbrev mX2_addHand : zM := (yX2_addHand, cX2_addHand, 2, some .boolean, 0, 0, 0, 0)
theorem kcX2_addHand : zCal mX2_addHand 1 := ⟨zin (zt3 (List.mem_of_getElem? (i := 103) rfl)) rfl, zin (zt1 (List.mem_of_getElem? (i := 6) (by decide +kernel))) rfl, ⟨by decide +kernel, by decide +kernel, by decide +kernel⟩, by decide +kernel⟩
theorem viX2_addHand : zVir mX2_addHand 2 := ⟨zin (zt3 (List.mem_of_getElem? (i := 101) (by decide +kernel))) rfl, zin (zt3 (List.mem_of_getElem? (i := 102) (by decide +kernel))) rfl, _, _, rfl⟩
theorem imX2_addHand : Cond.instanceMethod yX2_addHand ∈ zTB := zin (zt3 (List.mem_of_getElem? (i := 101) (by decide +kernel))) rfl
abbrev mX2_addFinger : zM := (yX2_addFinger, cX2_addFinger, 2, some .boolean, 0, 0, 0, 0)
theorem kcX2_addFinger : zCal mX2_addFinger 1 := ⟨zin (zt3 (List.mem_of_getElem? (i := 111) rfl)) rfl, zin (zt1 (List.mem_of_getElem? (i := 6) (by decide +kernel))) rfl, ⟨by decide +kernel, by decide +kernel, by decide +kernel⟩, by decide +kernel⟩
theorem viX2_addFinger : zVir mX2_addFinger 2 := ⟨zin (zt3 (List.mem_of_getElem? (i := 109) (by decide +kernel))) rfl, zin (zt3 (List.mem_of_getElem? (i := 110) (by decide +kernel))) rfl, _, _, rfl⟩
theorem imX2_addFinger : Cond.instanceMethod yX2_addFinger ∈ zTB := zin (zt3 (List.mem_of_getElem? (i := 109) (by decide +kernel))) rfl
abbrev mX2_addJoint : zM := (yX2_addJoint, cX2_addJoint, 3, some .boolean, 0, 0, 0, 0)
theorem kcX2_addJoint : zCal mX2_addJoint 2 := ⟨zin (zt3 (List.mem_of_getElem? (i := 122) rfl)) rfl, zin (zt1 (List.mem_of_getElem? (i := 6) (by decide +kernel))) rfl, ⟨by decide +kernel, by decide +kernel, by decide +kernel⟩, by decide +kernel⟩
theorem viX2_addJoint : zVir mX2_addJoint 2 := ⟨zin (zt3 (List.mem_of_getElem? (i := 120) (by decide +kernel))) rfl, zin (zt3 (List.mem_of_getElem? (i := 121) (by decide +kernel))) rfl, _, _, rfl⟩
theorem imX2_addJoint : Cond.instanceMethod yX2_addJoint ∈ zTB := zin (zt3 (List.mem_of_getElem? (i := 120) (by decide +kernel))) rfl
abbrev mX2_span : zM := (yX2_span, cX2_span, 2, some .int, 1, 21, 0, 0)
theorem kcX2_span : zCal mX2_span 1 := ⟨zin (zt3 (List.mem_of_getElem? (i := 146) rfl)) rfl, zin (zt1 (List.mem_of_getElem? (i := 6) (by decide +kernel))) rfl, ⟨by decide +kernel, by decide +kernel, by decide +kernel⟩, by decide +kernel⟩
theorem viX2_span : zVir mX2_span 2 := ⟨zin (zt3 (List.mem_of_getElem? (i := 144) (by decide +kernel))) rfl, zin (zt3 (List.mem_of_getElem? (i := 145) (by decide +kernel))) rfl, _, _, rfl⟩
theorem imX2_span : Cond.instanceMethod yX2_span ∈ zTB := zin (zt3 (List.mem_of_getElem? (i := 144) (by decide +kernel))) rfl
abbrev mX2_canTurn : zM := (yX2_canTurn, cX2_canTurn, 3, some .boolean, 2, 42, 0, 0)
theorem kcX2_canTurn : zCal mX2_canTurn 1 := ⟨zin (zt4 (List.mem_of_getElem? (i := 4) rfl)) rfl, zin (zt1 (List.mem_of_getElem? (i := 6) (by decide +kernel))) rfl, ⟨by decide +kernel, by decide +kernel, by decide +kernel⟩, by decide +kernel⟩
theorem viX2_canTurn : zVir mX2_canTurn 2 := ⟨zin (zt4 (List.mem_of_getElem? (i := 2) (by decide +kernel))) rfl, zin (zt4 (List.mem_of_getElem? (i := 3) (by decide +kernel))) rfl, _, _, rfl⟩
theorem imX2_canTurn : Cond.instanceMethod yX2_canTurn ∈ zTB := zin (zt4 (List.mem_of_getElem? (i := 2) (by decide +kernel))) rfl
abbrev mX2_turnFinger : zM := (yX2_turnFinger, cX2_turnFinger, 8, some .int, 2, 42, 0, 0)
theorem kcX2_turnFinger : zCal mX2_turnFinger 3 := ⟨zin (zt3 (List.mem_of_getElem? (i := 158) rfl)) rfl, zin (zt1 (List.mem_of_getElem? (i := 6) (by decide +kernel))) rfl, ⟨by decide +kernel, by decide +kernel, by decide +kernel⟩, by decide +kernel⟩
theorem viX2_turnFinger : zVir mX2_turnFinger 2 := ⟨zin (zt3 (List.mem_of_getElem? (i := 156) (by decide +kernel))) rfl, zin (zt3 (List.mem_of_getElem? (i := 157) (by decide +kernel))) rfl, _, _, rfl⟩
theorem imX2_turnFinger : Cond.instanceMethod yX2_turnFinger ∈ zTB := zin (zt3 (List.mem_of_getElem? (i := 156) (by decide +kernel))) rfl
abbrev mX2_wristCells : zM := (yX2_wristCells, cX2_wristCells, 6, some .int, 2, 48, 0, 0)
theorem kcX2_wristCells : zCal mX2_wristCells 2 := ⟨zin (zt3 (List.mem_of_getElem? (i := 193) rfl)) rfl, zin (zt1 (List.mem_of_getElem? (i := 6) (by decide +kernel))) rfl, ⟨by decide +kernel, by decide +kernel, by decide +kernel⟩, by decide +kernel⟩
theorem viX2_wristCells : zVir mX2_wristCells 2 := ⟨zin (zt3 (List.mem_of_getElem? (i := 191) (by decide +kernel))) rfl, zin (zt3 (List.mem_of_getElem? (i := 192) (by decide +kernel))) rfl, _, _, rfl⟩
theorem imX2_wristCells : Cond.instanceMethod yX2_wristCells ∈ zTB := zin (zt3 (List.mem_of_getElem? (i := 191) (by decide +kernel))) rfl
abbrev mX2_fingerCells : zM := (yX2_fingerCells, cX2_fingerCells, 9, some .int, 2, 48, 0, 0)
theorem kcX2_fingerCells : zCal mX2_fingerCells 3 := ⟨zin (zt3 (List.mem_of_getElem? (i := 170) rfl)) rfl, zin (zt1 (List.mem_of_getElem? (i := 6) (by decide +kernel))) rfl, ⟨by decide +kernel, by decide +kernel, by decide +kernel⟩, by decide +kernel⟩
theorem viX2_fingerCells : zVir mX2_fingerCells 2 := ⟨zin (zt3 (List.mem_of_getElem? (i := 168) (by decide +kernel))) rfl, zin (zt3 (List.mem_of_getElem? (i := 169) (by decide +kernel))) rfl, _, _, rfl⟩
theorem imX2_fingerCells : Cond.instanceMethod yX2_fingerCells ∈ zTB := zin (zt3 (List.mem_of_getElem? (i := 168) (by decide +kernel))) rfl
abbrev mX2_allCells : zM := (yX2_allCells, cX2_allCells, 5, some .int, 3, 76, 0, 0)
theorem kcX2_allCells : zCal mX2_allCells 2 := ⟨zin (zt4 (List.mem_of_getElem? (i := 24) rfl)) rfl, zin (zt1 (List.mem_of_getElem? (i := 6) (by decide +kernel))) rfl, ⟨by decide +kernel, by decide +kernel, by decide +kernel⟩, by decide +kernel⟩
theorem viX2_allCells : zVir mX2_allCells 2 := ⟨zin (zt4 (List.mem_of_getElem? (i := 22) (by decide +kernel))) rfl, zin (zt4 (List.mem_of_getElem? (i := 23) (by decide +kernel))) rfl, _, _, rfl⟩
theorem imX2_allCells : Cond.instanceMethod yX2_allCells ∈ zTB := zin (zt4 (List.mem_of_getElem? (i := 22) (by decide +kernel))) rfl
abbrev mX2_digestOn : zM := (yX2_digestOn, cX2_digestOn, 4, some .long, 1, 23, 0, 0)
theorem kcX2_digestOn : zCal mX2_digestOn 1 := ⟨zin (zt6 (List.mem_of_getElem? (i := 2) rfl)) rfl, zin (zt1 (List.mem_of_getElem? (i := 6) (by decide +kernel))) rfl, ⟨by decide +kernel, by decide +kernel, by decide +kernel⟩, by decide +kernel⟩
theorem viX2_digestOn : zVir mX2_digestOn 2 := ⟨zin (zt6 (List.mem_of_getElem? (i := 0) (by decide +kernel))) rfl, zin (zt6 (List.mem_of_getElem? (i := 1) (by decide +kernel))) rfl, _, _, rfl⟩
theorem imX2_digestOn : Cond.instanceMethod yX2_digestOn ∈ zTB := zin (zt6 (List.mem_of_getElem? (i := 0) (by decide +kernel))) rfl
abbrev mX3_init : zM := (yX3_init, cX3_init, 1, none, 1, 20, 0, 0)
theorem kcX3_init : zCal mX3_init 0 := ⟨zin (zt1 (List.mem_of_getElem? (i := 153) rfl)) rfl, zin (zt1 (List.mem_of_getElem? (i := 7) (by decide +kernel))) rfl, ⟨by decide +kernel, by decide +kernel, by decide +kernel⟩, by decide +kernel⟩
theorem imX3_init : Cond.instanceMethod yX3_init ∈ zTB := zin (zt1 (List.mem_of_getElem? (i := 152) (by decide +kernel))) rfl
abbrev mX3_become : zM := (yX3_become, cX3_become, 4, none, 0, 0, 0, 0)
theorem kcX3_become : zCal mX3_become 3 := ⟨zin (zt3 (List.mem_of_getElem? (i := 236) rfl)) rfl, zin (zt1 (List.mem_of_getElem? (i := 7) (by decide +kernel))) rfl, ⟨by decide +kernel, by decide +kernel, by decide +kernel⟩, by decide +kernel⟩
theorem viX3_become : zVir mX3_become 3 := ⟨zin (zt3 (List.mem_of_getElem? (i := 234) (by decide +kernel))) rfl, zin (zt3 (List.mem_of_getElem? (i := 235) (by decide +kernel))) rfl, _, _, rfl⟩
theorem imX3_become : Cond.instanceMethod yX3_become ∈ zTB := zin (zt3 (List.mem_of_getElem? (i := 234) (by decide +kernel))) rfl
abbrev mX3_becomeNumber : zM := (yX3_becomeNumber, cX3_becomeNumber, 2, none, 1, 23, 0, 0)
theorem kcX3_becomeNumber : zCal mX3_becomeNumber 1 := ⟨zin (zt5 (List.mem_of_getElem? (i := 38) rfl)) rfl, zin (zt1 (List.mem_of_getElem? (i := 7) (by decide +kernel))) rfl, ⟨by decide +kernel, by decide +kernel, by decide +kernel⟩, by decide +kernel⟩
theorem viX3_becomeNumber : zVir mX3_becomeNumber 3 := ⟨zin (zt5 (List.mem_of_getElem? (i := 36) (by decide +kernel))) rfl, zin (zt5 (List.mem_of_getElem? (i := 37) (by decide +kernel))) rfl, _, _, rfl⟩
theorem imX3_becomeNumber : Cond.instanceMethod yX3_becomeNumber ∈ zTB := zin (zt5 (List.mem_of_getElem? (i := 36) (by decide +kernel))) rfl
abbrev mX3_code : zM := (yX3_code, cX3_code, 1, some .int, 0, 0, 0, 0)
theorem kcX3_code : zCal mX3_code 0 := ⟨zin (zt3 (List.mem_of_getElem? (i := 232) rfl)) rfl, zin (zt1 (List.mem_of_getElem? (i := 7) (by decide +kernel))) rfl, ⟨by decide +kernel, by decide +kernel, by decide +kernel⟩, by decide +kernel⟩
theorem viX3_code : zVir mX3_code 3 := ⟨zin (zt3 (List.mem_of_getElem? (i := 230) (by decide +kernel))) rfl, zin (zt3 (List.mem_of_getElem? (i := 231) (by decide +kernel))) rfl, _, _, rfl⟩
theorem imX3_code : Cond.instanceMethod yX3_code ∈ zTB := zin (zt3 (List.mem_of_getElem? (i := 230) (by decide +kernel))) rfl
abbrev mX3_throwCells : zM := (yX3_throwCells, cX3_throwCells, 6, none, 3, 75, 0, 0)
theorem kcX3_throwCells : zCal mX3_throwCells 3 := ⟨zin (zt4 (List.mem_of_getElem? (i := 104) rfl)) rfl, zin (zt1 (List.mem_of_getElem? (i := 7) (by decide +kernel))) rfl, ⟨by decide +kernel, by decide +kernel, by decide +kernel⟩, by decide +kernel⟩
theorem viX3_throwCells : zVir mX3_throwCells 3 := ⟨zin (zt4 (List.mem_of_getElem? (i := 102) (by decide +kernel))) rfl, zin (zt4 (List.mem_of_getElem? (i := 103) (by decide +kernel))) rfl, _, _, rfl⟩
theorem imX3_throwCells : Cond.instanceMethod yX3_throwCells ∈ zTB := zin (zt4 (List.mem_of_getElem? (i := 102) (by decide +kernel))) rfl
abbrev mX3_throwHalf : zM := (yX3_throwHalf, cX3_throwHalf, 9, none, 2, 47, 0, 0)
theorem kcX3_throwHalf : zCal mX3_throwHalf 3 := ⟨zin (zt4 (List.mem_of_getElem? (i := 109) rfl)) rfl, zin (zt1 (List.mem_of_getElem? (i := 7) (by decide +kernel))) rfl, ⟨by decide +kernel, by decide +kernel, by decide +kernel⟩, by decide +kernel⟩
theorem viX3_throwHalf : zVir mX3_throwHalf 3 := ⟨zin (zt4 (List.mem_of_getElem? (i := 108) (by decide +kernel))) rfl, zin (zt0 (List.mem_of_getElem? (i := 13) (by decide +kernel))) rfl, _, _, rfl⟩
theorem imX3_throwHalf : Cond.instanceMethod yX3_throwHalf ∈ zTB := zin (zt4 (List.mem_of_getElem? (i := 108) (by decide +kernel))) rfl
abbrev mX3_throwCell : zM := (yX3_throwCell, cX3_throwCell, 6, none, 1, 22, 0, 0)
theorem kcX3_throwCell : zCal mX3_throwCell 3 := ⟨zin (zt4 (List.mem_of_getElem? (i := 120) rfl)) rfl, zin (zt1 (List.mem_of_getElem? (i := 7) (by decide +kernel))) rfl, ⟨by decide +kernel, by decide +kernel, by decide +kernel⟩, by decide +kernel⟩
theorem viX3_throwCell : zVir mX3_throwCell 3 := ⟨zin (zt4 (List.mem_of_getElem? (i := 119) (by decide +kernel))) rfl, zin (zt0 (List.mem_of_getElem? (i := 14) (by decide +kernel))) rfl, _, _, rfl⟩
theorem imX3_throwCell : Cond.instanceMethod yX3_throwCell ∈ zTB := zin (zt4 (List.mem_of_getElem? (i := 119) (by decide +kernel))) rfl
abbrev mX4_init : zM := (yX4_init, cX4_init, 1, none, 1, 20, 16, 149)
theorem kcX4_init : zCal mX4_init 0 := ⟨zin (zt2 (List.mem_of_getElem? (i := 20) rfl)) rfl, zin (zt1 (List.mem_of_getElem? (i := 11) (by decide +kernel))) rfl, ⟨by decide +kernel, by decide +kernel, by decide +kernel⟩, by decide +kernel⟩
theorem imX4_init : Cond.instanceMethod yX4_init ∈ zTB := zin (zt2 (List.mem_of_getElem? (i := 19) (by decide +kernel))) rfl
abbrev mX4_add : zM := (yX4_add, cX4_add, 4, some .int, 0, 0, 0, 0)
theorem kcX4_add : zCal mX4_add 3 := ⟨zin (zt5 (List.mem_of_getElem? (i := 119) rfl)) rfl, zin (zt1 (List.mem_of_getElem? (i := 11) (by decide +kernel))) rfl, ⟨by decide +kernel, by decide +kernel, by decide +kernel⟩, by decide +kernel⟩
theorem viX4_add : zVir mX4_add 4 := ⟨zin (zt5 (List.mem_of_getElem? (i := 117) (by decide +kernel))) rfl, zin (zt5 (List.mem_of_getElem? (i := 118) (by decide +kernel))) rfl, _, _, rfl⟩
theorem imX4_add : Cond.instanceMethod yX4_add ∈ zTB := zin (zt5 (List.mem_of_getElem? (i := 117) (by decide +kernel))) rfl
abbrev mX4_addCall : zM := (yX4_addCall, cX4_addCall, 4, some .int, 1, 24, 0, 0)
theorem kcX4_addCall : zCal mX4_addCall 3 := ⟨zin (zt5 (List.mem_of_getElem? (i := 135) rfl)) rfl, zin (zt1 (List.mem_of_getElem? (i := 11) (by decide +kernel))) rfl, ⟨by decide +kernel, by decide +kernel, by decide +kernel⟩, by decide +kernel⟩
theorem viX4_addCall : zVir mX4_addCall 4 := ⟨zin (zt5 (List.mem_of_getElem? (i := 133) (by decide +kernel))) rfl, zin (zt5 (List.mem_of_getElem? (i := 134) (by decide +kernel))) rfl, _, _, rfl⟩
theorem imX4_addCall : Cond.instanceMethod yX4_addCall ∈ zTB := zin (zt5 (List.mem_of_getElem? (i := 133) (by decide +kernel))) rfl
abbrev mX4_setCall : zM := (yX4_setCall, cX4_setCall, 5, none, 0, 0, 0, 0)
theorem kcX4_setCall : zCal mX4_setCall 4 := ⟨zin (zt3 (List.mem_of_getElem? (i := 138) rfl)) rfl, zin (zt1 (List.mem_of_getElem? (i := 11) (by decide +kernel))) rfl, ⟨by decide +kernel, by decide +kernel, by decide +kernel⟩, by decide +kernel⟩
theorem viX4_setCall : zVir mX4_setCall 4 := ⟨zin (zt3 (List.mem_of_getElem? (i := 137) (by decide +kernel))) rfl, zin (zt0 (List.mem_of_getElem? (i := 6) (by decide +kernel))) rfl, _, _, rfl⟩
theorem imX4_setCall : Cond.instanceMethod yX4_setCall ∈ zTB := zin (zt3 (List.mem_of_getElem? (i := 137) (by decide +kernel))) rfl
abbrev mX4_dropCalls : zM := (yX4_dropCalls, cX4_dropCalls, 4, none, 1, 24, 0, 0)
theorem kcX4_dropCalls : zCal mX4_dropCalls 1 := ⟨zin (zt3 (List.mem_of_getElem? (i := 134) rfl)) rfl, zin (zt1 (List.mem_of_getElem? (i := 11) (by decide +kernel))) rfl, ⟨by decide +kernel, by decide +kernel, by decide +kernel⟩, by decide +kernel⟩
theorem viX4_dropCalls : zVir mX4_dropCalls 4 := ⟨zin (zt3 (List.mem_of_getElem? (i := 132) (by decide +kernel))) rfl, zin (zt3 (List.mem_of_getElem? (i := 133) (by decide +kernel))) rfl, _, _, rfl⟩
theorem imX4_dropCalls : Cond.instanceMethod yX4_dropCalls ∈ zTB := zin (zt3 (List.mem_of_getElem? (i := 132) (by decide +kernel))) rfl
abbrev mX4_callsOf : zM := (yX4_callsOf, cX4_callsOf, 5, some .int, 0, 0, 0, 0)
theorem kcX4_callsOf : zCal mX4_callsOf 2 := ⟨zin (zt5 (List.mem_of_getElem? (i := 189) rfl)) rfl, zin (zt1 (List.mem_of_getElem? (i := 11) (by decide +kernel))) rfl, ⟨by decide +kernel, by decide +kernel, by decide +kernel⟩, by decide +kernel⟩
theorem viX4_callsOf : zVir mX4_callsOf 4 := ⟨zin (zt5 (List.mem_of_getElem? (i := 187) (by decide +kernel))) rfl, zin (zt5 (List.mem_of_getElem? (i := 188) (by decide +kernel))) rfl, _, _, rfl⟩
theorem imX4_callsOf : Cond.instanceMethod yX4_callsOf ∈ zTB := zin (zt5 (List.mem_of_getElem? (i := 187) (by decide +kernel))) rfl
abbrev mX4_measure : zM := (yX4_measure, cX4_measure, 5, none, 2, 45, 0, 0)
theorem kcX4_measure : zCal mX4_measure 3 := ⟨zin (zt5 (List.mem_of_getElem? (i := 151) rfl)) rfl, zin (zt1 (List.mem_of_getElem? (i := 11) (by decide +kernel))) rfl, ⟨by decide +kernel, by decide +kernel, by decide +kernel⟩, by decide +kernel⟩
theorem viX4_measure : zVir mX4_measure 4 := ⟨zin (zt5 (List.mem_of_getElem? (i := 149) (by decide +kernel))) rfl, zin (zt5 (List.mem_of_getElem? (i := 150) (by decide +kernel))) rfl, _, _, rfl⟩
theorem imX4_measure : Cond.instanceMethod yX4_measure ∈ zTB := zin (zt5 (List.mem_of_getElem? (i := 149) (by decide +kernel))) rfl
abbrev mX4_guessBy : zM := (yX4_guessBy, cX4_guessBy, 8, some .int, 0, 0, 0, 0)
theorem kcX4_guessBy : zCal mX4_guessBy 4 := ⟨zin (zt5 (List.mem_of_getElem? (i := 157) rfl)) rfl, zin (zt1 (List.mem_of_getElem? (i := 11) (by decide +kernel))) rfl, ⟨by decide +kernel, by decide +kernel, by decide +kernel⟩, by decide +kernel⟩
theorem viX4_guessBy : zVir mX4_guessBy 4 := ⟨zin (zt5 (List.mem_of_getElem? (i := 155) (by decide +kernel))) rfl, zin (zt5 (List.mem_of_getElem? (i := 156) (by decide +kernel))) rfl, _, _, rfl⟩
theorem imX4_guessBy : Cond.instanceMethod yX4_guessBy ∈ zTB := zin (zt5 (List.mem_of_getElem? (i := 155) (by decide +kernel))) rfl
abbrev mX4_beginFit : zM := (yX4_beginFit, cX4_beginFit, 2, none, 0, 0, 0, 0)
theorem kcX4_beginFit : zCal mX4_beginFit 0 := ⟨zin (zt5 (List.mem_of_getElem? (i := 169) rfl)) rfl, zin (zt1 (List.mem_of_getElem? (i := 11) (by decide +kernel))) rfl, ⟨by decide +kernel, by decide +kernel, by decide +kernel⟩, by decide +kernel⟩
theorem viX4_beginFit : zVir mX4_beginFit 4 := ⟨zin (zt5 (List.mem_of_getElem? (i := 167) (by decide +kernel))) rfl, zin (zt5 (List.mem_of_getElem? (i := 168) (by decide +kernel))) rfl, _, _, rfl⟩
theorem imX4_beginFit : Cond.instanceMethod yX4_beginFit ∈ zTB := zin (zt5 (List.mem_of_getElem? (i := 167) (by decide +kernel))) rfl
abbrev mX4_tryFits : zM := (yX4_tryFits, cX4_tryFits, 4, none, 1, 27, 0, 0)
theorem kcX4_tryFits : zCal mX4_tryFits 2 := ⟨zin (zt5 (List.mem_of_getElem? (i := 173) rfl)) rfl, zin (zt1 (List.mem_of_getElem? (i := 11) (by decide +kernel))) rfl, ⟨by decide +kernel, by decide +kernel, by decide +kernel⟩, by decide +kernel⟩
theorem viX4_tryFits : zVir mX4_tryFits 4 := ⟨zin (zt5 (List.mem_of_getElem? (i := 171) (by decide +kernel))) rfl, zin (zt5 (List.mem_of_getElem? (i := 172) (by decide +kernel))) rfl, _, _, rfl⟩
theorem imX4_tryFits : Cond.instanceMethod yX4_tryFits ∈ zTB := zin (zt5 (List.mem_of_getElem? (i := 171) (by decide +kernel))) rfl
abbrev mX4_bestFit : zM := (yX4_bestFit, cX4_bestFit, 3, some .int, 0, 0, 0, 0)
theorem kcX4_bestFit : zCal mX4_bestFit 0 := ⟨zin (zt5 (List.mem_of_getElem? (i := 178) rfl)) rfl, zin (zt1 (List.mem_of_getElem? (i := 11) (by decide +kernel))) rfl, ⟨by decide +kernel, by decide +kernel, by decide +kernel⟩, by decide +kernel⟩
theorem viX4_bestFit : zVir mX4_bestFit 4 := ⟨zin (zt5 (List.mem_of_getElem? (i := 176) (by decide +kernel))) rfl, zin (zt5 (List.mem_of_getElem? (i := 177) (by decide +kernel))) rfl, _, _, rfl⟩
theorem imX4_bestFit : Cond.instanceMethod yX4_bestFit ∈ zTB := zin (zt5 (List.mem_of_getElem? (i := 176) (by decide +kernel))) rfl
abbrev mX4_fitCode : zM := (yX4_fitCode, cX4_fitCode, 1, some .int, 0, 0, 0, 0)
theorem kcX4_fitCode : zCal mX4_fitCode 1 := ⟨zin (zt5 (List.mem_of_getElem? (i := 181) rfl)) rfl, zin (zt1 (List.mem_of_getElem? (i := 11) (by decide +kernel))) rfl, ⟨by decide +kernel, by decide +kernel, by decide +kernel⟩, by decide +kernel⟩
theorem smX4_fitCode : Cond.static yX4_fitCode ∈ zTB := zin (zt5 (List.mem_of_getElem? (i := 180) (by decide +kernel))) rfl
abbrev mX4_digestOn : zM := (yX4_digestOn, cX4_digestOn, 5, some .long, 1, 23, 0, 0)
theorem kcX4_digestOn : zCal mX4_digestOn 1 := ⟨zin (zt6 (List.mem_of_getElem? (i := 23) rfl)) rfl, zin (zt1 (List.mem_of_getElem? (i := 11) (by decide +kernel))) rfl, ⟨by decide +kernel, by decide +kernel, by decide +kernel⟩, by decide +kernel⟩
theorem viX4_digestOn : zVir mX4_digestOn 4 := ⟨zin (zt6 (List.mem_of_getElem? (i := 21) (by decide +kernel))) rfl, zin (zt6 (List.mem_of_getElem? (i := 22) (by decide +kernel))) rfl, _, _, rfl⟩
theorem imX4_digestOn : Cond.instanceMethod yX4_digestOn ∈ zTB := zin (zt6 (List.mem_of_getElem? (i := 21) (by decide +kernel))) rfl
abbrev mX5_init : zM := (yX5_init, cX5_init, 1, none, 2, 40, 3, 10)
theorem kcX5_init : zCal mX5_init 0 := ⟨zin (zt1 (List.mem_of_getElem? (i := 170) rfl)) rfl, zin (zt1 (List.mem_of_getElem? (i := 8) (by decide +kernel))) rfl, ⟨by decide +kernel, by decide +kernel, by decide +kernel⟩, by decide +kernel⟩
theorem imX5_init : Cond.instanceMethod yX5_init ∈ zTB := zin (zt1 (List.mem_of_getElem? (i := 169) (by decide +kernel))) rfl
abbrev mX5_begin : zM := (yX5_begin, cX5_begin, 4, none, 2, 42, 0, 0)
theorem kcX5_begin : zCal mX5_begin 2 := ⟨zin (zt4 (List.mem_of_getElem? (i := 9) rfl)) rfl, zin (zt1 (List.mem_of_getElem? (i := 8) (by decide +kernel))) rfl, ⟨by decide +kernel, by decide +kernel, by decide +kernel⟩, by decide +kernel⟩
theorem viX5_begin : zVir mX5_begin 5 := ⟨zin (zt4 (List.mem_of_getElem? (i := 7) (by decide +kernel))) rfl, zin (zt4 (List.mem_of_getElem? (i := 8) (by decide +kernel))) rfl, _, _, rfl⟩
theorem imX5_begin : Cond.instanceMethod yX5_begin ∈ zTB := zin (zt4 (List.mem_of_getElem? (i := 7) (by decide +kernel))) rfl
abbrev mX5_judge : zM := (yX5_judge, cX5_judge, 5, none, 4, 100, 0, 0)
theorem kcX5_judge : zCal mX5_judge 3 := ⟨zin (zt4 (List.mem_of_getElem? (i := 15) rfl)) rfl, zin (zt1 (List.mem_of_getElem? (i := 8) (by decide +kernel))) rfl, ⟨by decide +kernel, by decide +kernel, by decide +kernel⟩, by decide +kernel⟩
theorem viX5_judge : zVir mX5_judge 5 := ⟨zin (zt4 (List.mem_of_getElem? (i := 13) (by decide +kernel))) rfl, zin (zt4 (List.mem_of_getElem? (i := 14) (by decide +kernel))) rfl, _, _, rfl⟩
theorem imX5_judge : Cond.instanceMethod yX5_judge ∈ zTB := zin (zt4 (List.mem_of_getElem? (i := 13) (by decide +kernel))) rfl
abbrev mX5_weigh : zM := (yX5_weigh, cX5_weigh, 3, some .int, 1, 20, 0, 0)
theorem kcX5_weigh : zCal mX5_weigh 0 := ⟨zin (zt4 (List.mem_of_getElem? (i := 19) rfl)) rfl, zin (zt1 (List.mem_of_getElem? (i := 8) (by decide +kernel))) rfl, ⟨by decide +kernel, by decide +kernel, by decide +kernel⟩, by decide +kernel⟩
theorem viX5_weigh : zVir mX5_weigh 5 := ⟨zin (zt4 (List.mem_of_getElem? (i := 18) (by decide +kernel))) rfl, zin (zt0 (List.mem_of_getElem? (i := 11) (by decide +kernel))) rfl, _, _, rfl⟩
theorem imX5_weigh : Cond.instanceMethod yX5_weigh ∈ zTB := zin (zt4 (List.mem_of_getElem? (i := 18) (by decide +kernel))) rfl
abbrev mX5_isHeld : zM := (yX5_isHeld, cX5_isHeld, 1, some .boolean, 0, 0, 0, 0)
theorem kcX5_isHeld : zCal mX5_isHeld 0 := ⟨zin (zt4 (List.mem_of_getElem? (i := 39) rfl)) rfl, zin (zt1 (List.mem_of_getElem? (i := 8) (by decide +kernel))) rfl, ⟨by decide +kernel, by decide +kernel, by decide +kernel⟩, by decide +kernel⟩
theorem viX5_isHeld : zVir mX5_isHeld 5 := ⟨zin (zt4 (List.mem_of_getElem? (i := 37) (by decide +kernel))) rfl, zin (zt4 (List.mem_of_getElem? (i := 38) (by decide +kernel))) rfl, _, _, rfl⟩
theorem imX5_isHeld : Cond.instanceMethod yX5_isHeld ∈ zTB := zin (zt4 (List.mem_of_getElem? (i := 37) (by decide +kernel))) rfl
abbrev mX5_shadow : zM := (yX5_shadow, cX5_shadow, 3, none, 4, 100, 0, 0)
theorem kcX5_shadow : zCal mX5_shadow 2 := ⟨zin (zt4 (List.mem_of_getElem? (i := 100) rfl)) rfl, zin (zt1 (List.mem_of_getElem? (i := 8) (by decide +kernel))) rfl, ⟨by decide +kernel, by decide +kernel, by decide +kernel⟩, by decide +kernel⟩
theorem viX5_shadow : zVir mX5_shadow 5 := ⟨zin (zt4 (List.mem_of_getElem? (i := 98) (by decide +kernel))) rfl, zin (zt4 (List.mem_of_getElem? (i := 99) (by decide +kernel))) rfl, _, _, rfl⟩
theorem imX5_shadow : Cond.instanceMethod yX5_shadow ∈ zTB := zin (zt4 (List.mem_of_getElem? (i := 98) (by decide +kernel))) rfl
abbrev mX5_digestOn : zM := (yX5_digestOn, cX5_digestOn, 5, some .long, 1, 23, 0, 0)
theorem kcX5_digestOn : zCal mX5_digestOn 2 := ⟨zin (zt6 (List.mem_of_getElem? (i := 7) rfl)) rfl, zin (zt1 (List.mem_of_getElem? (i := 8) (by decide +kernel))) rfl, ⟨by decide +kernel, by decide +kernel, by decide +kernel⟩, by decide +kernel⟩
theorem viX5_digestOn : zVir mX5_digestOn 5 := ⟨zin (zt6 (List.mem_of_getElem? (i := 5) (by decide +kernel))) rfl, zin (zt6 (List.mem_of_getElem? (i := 6) (by decide +kernel))) rfl, _, _, rfl⟩
theorem imX5_digestOn : Cond.instanceMethod yX5_digestOn ∈ zTB := zin (zt6 (List.mem_of_getElem? (i := 5) (by decide +kernel))) rfl
abbrev mX6_init : zM := (yX6_init, cX6_init, 1, none, 2, 40, 15, 23006)
theorem kcX6_init : zCal mX6_init 0 := ⟨zin (zt2 (List.mem_of_getElem? (i := 70) rfl)) rfl, zin (zt1 (List.mem_of_getElem? (i := 12) (by decide +kernel))) rfl, ⟨by decide +kernel, by decide +kernel, by decide +kernel⟩, by decide +kernel⟩
theorem imX6_init : Cond.instanceMethod yX6_init ∈ zTB := zin (zt2 (List.mem_of_getElem? (i := 69) (by decide +kernel))) rfl
abbrev mX6_learn : zM := (yX6_learn, cX6_learn, 4, none, 4, 101, 0, 0)
theorem kcX6_learn : zCal mX6_learn 1 := ⟨zin (zt3 (List.mem_of_getElem? (i := 142) rfl)) rfl, zin (zt1 (List.mem_of_getElem? (i := 12) (by decide +kernel))) rfl, ⟨by decide +kernel, by decide +kernel, by decide +kernel⟩, by decide +kernel⟩
theorem viX6_learn : zVir mX6_learn 6 := ⟨zin (zt3 (List.mem_of_getElem? (i := 140) (by decide +kernel))) rfl, zin (zt3 (List.mem_of_getElem? (i := 141) (by decide +kernel))) rfl, _, _, rfl⟩
theorem imX6_learn : Cond.instanceMethod yX6_learn ∈ zTB := zin (zt3 (List.mem_of_getElem? (i := 140) (by decide +kernel))) rfl
abbrev mX6_learnFinger : zM := (yX6_learnFinger, cX6_learnFinger, 6, none, 3, 76, 0, 0)
theorem kcX6_learnFinger : zCal mX6_learnFinger 2 := ⟨zin (zt3 (List.mem_of_getElem? (i := 151) rfl)) rfl, zin (zt1 (List.mem_of_getElem? (i := 12) (by decide +kernel))) rfl, ⟨by decide +kernel, by decide +kernel, by decide +kernel⟩, by decide +kernel⟩
theorem viX6_learnFinger : zVir mX6_learnFinger 6 := ⟨zin (zt3 (List.mem_of_getElem? (i := 150) (by decide +kernel))) rfl, zin (zt0 (List.mem_of_getElem? (i := 7) (by decide +kernel))) rfl, _, _, rfl⟩
theorem imX6_learnFinger : Cond.instanceMethod yX6_learnFinger ∈ zTB := zin (zt3 (List.mem_of_getElem? (i := 150) (by decide +kernel))) rfl
abbrev mX6_combine : zM := (yX6_combine, cX6_combine, 4, none, 3, 73, 0, 0)
theorem kcX6_combine : zCal mX6_combine 2 := ⟨zin (zt3 (List.mem_of_getElem? (i := 189) rfl)) rfl, zin (zt1 (List.mem_of_getElem? (i := 12) (by decide +kernel))) rfl, ⟨by decide +kernel, by decide +kernel, by decide +kernel⟩, by decide +kernel⟩
theorem viX6_combine : zVir mX6_combine 6 := ⟨zin (zt3 (List.mem_of_getElem? (i := 187) (by decide +kernel))) rfl, zin (zt3 (List.mem_of_getElem? (i := 188) (by decide +kernel))) rfl, _, _, rfl⟩
theorem imX6_combine : Cond.instanceMethod yX6_combine ∈ zTB := zin (zt3 (List.mem_of_getElem? (i := 187) (by decide +kernel))) rfl
abbrev mX6_shade : zM := (yX6_shade, cX6_shade, 7, none, 4, 100, 0, 0)
theorem kcX6_shade : zCal mX6_shade 3 := ⟨zin (zt4 (List.mem_of_getElem? (i := 172) rfl)) rfl, zin (zt1 (List.mem_of_getElem? (i := 12) (by decide +kernel))) rfl, ⟨by decide +kernel, by decide +kernel, by decide +kernel⟩, by decide +kernel⟩
theorem viX6_shade : zVir mX6_shade 6 := ⟨zin (zt4 (List.mem_of_getElem? (i := 170) (by decide +kernel))) rfl, zin (zt4 (List.mem_of_getElem? (i := 171) (by decide +kernel))) rfl, _, _, rfl⟩
theorem imX6_shade : Cond.instanceMethod yX6_shade ∈ zTB := zin (zt4 (List.mem_of_getElem? (i := 170) (by decide +kernel))) rfl
abbrev mX6_join : zM := (yX6_join, cX6_join, 9, none, 0, 0, 0, 0)
theorem kcX6_join : zCal mX6_join 5 := ⟨zin (zt3 (List.mem_of_getElem? (i := 205) rfl)) rfl, zin (zt1 (List.mem_of_getElem? (i := 12) (by decide +kernel))) rfl, ⟨by decide +kernel, by decide +kernel, by decide +kernel⟩, by decide +kernel⟩
theorem smX6_join : Cond.static yX6_join ∈ zTB := zin (zt3 (List.mem_of_getElem? (i := 204) (by decide +kernel))) rfl
abbrev mX6_joinLoads : zM := (yX6_joinLoads, cX6_joinLoads, 7, none, 1, 23, 0, 0)
theorem kcX6_joinLoads : zCal mX6_joinLoads 2 := ⟨zin (zt3 (List.mem_of_getElem? (i := 198) rfl)) rfl, zin (zt1 (List.mem_of_getElem? (i := 12) (by decide +kernel))) rfl, ⟨by decide +kernel, by decide +kernel, by decide +kernel⟩, by decide +kernel⟩
theorem viX6_joinLoads : zVir mX6_joinLoads 6 := ⟨zin (zt3 (List.mem_of_getElem? (i := 197) (by decide +kernel))) rfl, zin (zt0 (List.mem_of_getElem? (i := 8) (by decide +kernel))) rfl, _, _, rfl⟩
theorem imX6_joinLoads : Cond.instanceMethod yX6_joinLoads ∈ zTB := zin (zt3 (List.mem_of_getElem? (i := 197) (by decide +kernel))) rfl
abbrev mX6_joinedLoad : zM := (yX6_joinedLoad, cX6_joinedLoad, 4, some .byte, 0, 0, 0, 0)
theorem kcX6_joinedLoad : zCal mX6_joinedLoad 3 := ⟨zin (zt3 (List.mem_of_getElem? (i := 202) rfl)) rfl, zin (zt1 (List.mem_of_getElem? (i := 12) (by decide +kernel))) rfl, ⟨by decide +kernel, by decide +kernel, by decide +kernel⟩, by decide +kernel⟩
theorem viX6_joinedLoad : zVir mX6_joinedLoad 6 := ⟨zin (zt3 (List.mem_of_getElem? (i := 201) (by decide +kernel))) rfl, zin (zt0 (List.mem_of_getElem? (i := 9) (by decide +kernel))) rfl, _, _, rfl⟩
theorem imX6_joinedLoad : Cond.instanceMethod yX6_joinedLoad ∈ zTB := zin (zt3 (List.mem_of_getElem? (i := 201) (by decide +kernel))) rfl
abbrev mX6_isBarred : zM := (yX6_isBarred, cX6_isBarred, 2, some .boolean, 0, 0, 0, 0)
theorem kcX6_isBarred : zCal mX6_isBarred 1 := ⟨zin (zt4 (List.mem_of_getElem? (i := 163) rfl)) rfl, zin (zt1 (List.mem_of_getElem? (i := 12) (by decide +kernel))) rfl, ⟨by decide +kernel, by decide +kernel, by decide +kernel⟩, by decide +kernel⟩
theorem viX6_isBarred : zVir mX6_isBarred 6 := ⟨zin (zt4 (List.mem_of_getElem? (i := 161) (by decide +kernel))) rfl, zin (zt4 (List.mem_of_getElem? (i := 162) (by decide +kernel))) rfl, _, _, rfl⟩
theorem imX6_isBarred : Cond.instanceMethod yX6_isBarred ∈ zTB := zin (zt4 (List.mem_of_getElem? (i := 161) (by decide +kernel))) rfl
abbrev mX6_isHeld : zM := (yX6_isHeld, cX6_isHeld, 3, some .boolean, 1, 21, 0, 0)
theorem kcX6_isHeld : zCal mX6_isHeld 2 := ⟨zin (zt4 (List.mem_of_getElem? (i := 159) rfl)) rfl, zin (zt1 (List.mem_of_getElem? (i := 12) (by decide +kernel))) rfl, ⟨by decide +kernel, by decide +kernel, by decide +kernel⟩, by decide +kernel⟩
theorem viX6_isHeld : zVir mX6_isHeld 6 := ⟨zin (zt4 (List.mem_of_getElem? (i := 157) (by decide +kernel))) rfl, zin (zt4 (List.mem_of_getElem? (i := 158) (by decide +kernel))) rfl, _, _, rfl⟩
theorem imX6_isHeld : Cond.instanceMethod yX6_isHeld ∈ zTB := zin (zt4 (List.mem_of_getElem? (i := 157) (by decide +kernel))) rfl
abbrev mX6_turnAt : zM := (yX6_turnAt, cX6_turnAt, 4, some .int, 0, 0, 0, 0)
theorem kcX6_turnAt : zCal mX6_turnAt 3 := ⟨zin (zt4 (List.mem_of_getElem? (i := 182) rfl)) rfl, zin (zt1 (List.mem_of_getElem? (i := 12) (by decide +kernel))) rfl, ⟨by decide +kernel, by decide +kernel, by decide +kernel⟩, by decide +kernel⟩
theorem viX6_turnAt : zVir mX6_turnAt 6 := ⟨zin (zt4 (List.mem_of_getElem? (i := 180) (by decide +kernel))) rfl, zin (zt4 (List.mem_of_getElem? (i := 181) (by decide +kernel))) rfl, _, _, rfl⟩
theorem imX6_turnAt : Cond.instanceMethod yX6_turnAt ∈ zTB := zin (zt4 (List.mem_of_getElem? (i := 180) (by decide +kernel))) rfl
abbrev mX6_placeOf : zM := (yX6_placeOf, cX6_placeOf, 5, some .int, 0, 0, 0, 0)
theorem kcX6_placeOf : zCal mX6_placeOf 2 := ⟨zin (zt5 (List.mem_of_getElem? (i := 5) rfl)) rfl, zin (zt1 (List.mem_of_getElem? (i := 12) (by decide +kernel))) rfl, ⟨by decide +kernel, by decide +kernel, by decide +kernel⟩, by decide +kernel⟩
theorem viX6_placeOf : zVir mX6_placeOf 6 := ⟨zin (zt5 (List.mem_of_getElem? (i := 3) (by decide +kernel))) rfl, zin (zt5 (List.mem_of_getElem? (i := 4) (by decide +kernel))) rfl, _, _, rfl⟩
theorem imX6_placeOf : Cond.instanceMethod yX6_placeOf ∈ zTB := zin (zt5 (List.mem_of_getElem? (i := 3) (by decide +kernel))) rfl
abbrev mX6_offOf : zM := (yX6_offOf, cX6_offOf, 3, some .int, 3, 69, 0, 0)
theorem kcX6_offOf : zCal mX6_offOf 2 := ⟨zin (zt4 (List.mem_of_getElem? (i := 186) rfl)) rfl, zin (zt1 (List.mem_of_getElem? (i := 12) (by decide +kernel))) rfl, ⟨by decide +kernel, by decide +kernel, by decide +kernel⟩, by decide +kernel⟩
theorem viX6_offOf : zVir mX6_offOf 6 := ⟨zin (zt4 (List.mem_of_getElem? (i := 184) (by decide +kernel))) rfl, zin (zt4 (List.mem_of_getElem? (i := 185) (by decide +kernel))) rfl, _, _, rfl⟩
theorem imX6_offOf : Cond.instanceMethod yX6_offOf ∈ zTB := zin (zt4 (List.mem_of_getElem? (i := 184) (by decide +kernel))) rfl
abbrev mX6_nearestTurns : zM := (yX6_nearestTurns, cX6_nearestTurns, 9, some .int, 4, 91, 0, 0)
theorem kcX6_nearestTurns : zCal mX6_nearestTurns 4 := ⟨zin (zt4 (List.mem_of_getElem? (i := 177) rfl)) rfl, zin (zt1 (List.mem_of_getElem? (i := 12) (by decide +kernel))) rfl, ⟨by decide +kernel, by decide +kernel, by decide +kernel⟩, by decide +kernel⟩
theorem viX6_nearestTurns : zVir mX6_nearestTurns 6 := ⟨zin (zt4 (List.mem_of_getElem? (i := 175) (by decide +kernel))) rfl, zin (zt4 (List.mem_of_getElem? (i := 176) (by decide +kernel))) rfl, _, _, rfl⟩
theorem imX6_nearestTurns : Cond.instanceMethod yX6_nearestTurns ∈ zTB := zin (zt4 (List.mem_of_getElem? (i := 175) (by decide +kernel))) rfl
abbrev mX6_leastOff : zM := (yX6_leastOff, cX6_leastOff, 5, some .int, 5, 119, 0, 0)
theorem kcX6_leastOff : zCal mX6_leastOff 4 := ⟨zin (zt5 (List.mem_of_getElem? (i := 102) rfl)) rfl, zin (zt1 (List.mem_of_getElem? (i := 12) (by decide +kernel))) rfl, ⟨by decide +kernel, by decide +kernel, by decide +kernel⟩, by decide +kernel⟩
theorem viX6_leastOff : zVir mX6_leastOff 6 := ⟨zin (zt5 (List.mem_of_getElem? (i := 100) (by decide +kernel))) rfl, zin (zt5 (List.mem_of_getElem? (i := 101) (by decide +kernel))) rfl, _, _, rfl⟩
theorem imX6_leastOff : Cond.instanceMethod yX6_leastOff ∈ zTB := zin (zt5 (List.mem_of_getElem? (i := 100) (by decide +kernel))) rfl
abbrev mX6_joinDark : zM := (yX6_joinDark, cX6_joinDark, 4, none, 2, 43, 0, 0)
theorem kcX6_joinDark : zCal mX6_joinDark 2 := ⟨zin (zt4 (List.mem_of_getElem? (i := 197) rfl)) rfl, zin (zt1 (List.mem_of_getElem? (i := 12) (by decide +kernel))) rfl, ⟨by decide +kernel, by decide +kernel, by decide +kernel⟩, by decide +kernel⟩
theorem viX6_joinDark : zVir mX6_joinDark 6 := ⟨zin (zt4 (List.mem_of_getElem? (i := 195) (by decide +kernel))) rfl, zin (zt4 (List.mem_of_getElem? (i := 196) (by decide +kernel))) rfl, _, _, rfl⟩
theorem imX6_joinDark : Cond.instanceMethod yX6_joinDark ∈ zTB := zin (zt4 (List.mem_of_getElem? (i := 195) (by decide +kernel))) rfl
abbrev mX6_throwsJust : zM := (yX6_throwsJust, cX6_throwsJust, 4, some .boolean, 2, 43, 0, 0)
theorem kcX6_throwsJust : zCal mX6_throwsJust 3 := ⟨zin (zt4 (List.mem_of_getElem? (i := 220) rfl)) rfl, zin (zt1 (List.mem_of_getElem? (i := 12) (by decide +kernel))) rfl, ⟨by decide +kernel, by decide +kernel, by decide +kernel⟩, by decide +kernel⟩
theorem viX6_throwsJust : zVir mX6_throwsJust 6 := ⟨zin (zt4 (List.mem_of_getElem? (i := 219) (by decide +kernel))) rfl, zin (zt0 (List.mem_of_getElem? (i := 15) (by decide +kernel))) rfl, _, _, rfl⟩
theorem imX6_throwsJust : Cond.instanceMethod yX6_throwsJust ∈ zTB := zin (zt4 (List.mem_of_getElem? (i := 219) (by decide +kernel))) rfl
abbrev mX6_numberThrowing : zM := (yX6_numberThrowing, cX6_numberThrowing, 5, some .int, 3, 66, 0, 0)
theorem kcX6_numberThrowing : zCal mX6_numberThrowing 2 := ⟨zin (zt4 (List.mem_of_getElem? (i := 228) rfl)) rfl, zin (zt1 (List.mem_of_getElem? (i := 12) (by decide +kernel))) rfl, ⟨by decide +kernel, by decide +kernel, by decide +kernel⟩, by decide +kernel⟩
theorem viX6_numberThrowing : zVir mX6_numberThrowing 6 := ⟨zin (zt4 (List.mem_of_getElem? (i := 226) (by decide +kernel))) rfl, zin (zt4 (List.mem_of_getElem? (i := 227) (by decide +kernel))) rfl, _, _, rfl⟩
theorem imX6_numberThrowing : Cond.instanceMethod yX6_numberThrowing ∈ zTB := zin (zt4 (List.mem_of_getElem? (i := 226) (by decide +kernel))) rfl
abbrev mX6_alikeJoints : zM := (yX6_alikeJoints, cX6_alikeJoints, 8, some .int, 3, 66, 0, 0)
theorem kcX6_alikeJoints : zCal mX6_alikeJoints 3 := ⟨zin (zt4 (List.mem_of_getElem? (i := 216) rfl)) rfl, zin (zt1 (List.mem_of_getElem? (i := 12) (by decide +kernel))) rfl, ⟨by decide +kernel, by decide +kernel, by decide +kernel⟩, by decide +kernel⟩
theorem viX6_alikeJoints : zVir mX6_alikeJoints 6 := ⟨zin (zt4 (List.mem_of_getElem? (i := 214) (by decide +kernel))) rfl, zin (zt4 (List.mem_of_getElem? (i := 215) (by decide +kernel))) rfl, _, _, rfl⟩
theorem imX6_alikeJoints : Cond.instanceMethod yX6_alikeJoints ∈ zTB := zin (zt4 (List.mem_of_getElem? (i := 214) (by decide +kernel))) rfl
abbrev mX7_init : zM := (yX7_init, cX7_init, 1, none, 1, 20, 0, 0)
theorem kcX7_init : zCal mX7_init 0 := ⟨zin (zt1 (List.mem_of_getElem? (i := 77) rfl)) rfl, zin (zt1 (List.mem_of_getElem? (i := 5) (by decide +kernel))) rfl, ⟨by decide +kernel, by decide +kernel, by decide +kernel⟩, by decide +kernel⟩
theorem imX7_init : Cond.instanceMethod yX7_init ∈ zTB := zin (zt1 (List.mem_of_getElem? (i := 76) (by decide +kernel))) rfl
abbrev mX7_read : zM := (yX7_read, cX7_read, 4, some .int, 6, 126, 0, 0)
theorem kcX7_read : zCal mX7_read 2 := ⟨zin (zt3 (List.mem_of_getElem? (i := 81) rfl)) rfl, zin (zt1 (List.mem_of_getElem? (i := 5) (by decide +kernel))) rfl, ⟨by decide +kernel, by decide +kernel, by decide +kernel⟩, by decide +kernel⟩
theorem viX7_read : zVir mX7_read 7 := ⟨zin (zt3 (List.mem_of_getElem? (i := 79) (by decide +kernel))) rfl, zin (zt3 (List.mem_of_getElem? (i := 80) (by decide +kernel))) rfl, _, _, rfl⟩
theorem imX7_read : Cond.instanceMethod yX7_read ∈ zTB := zin (zt3 (List.mem_of_getElem? (i := 79) (by decide +kernel))) rfl
abbrev mX7_readOne : zM := (yX7_readOne, cX7_readOne, 2, some .boolean, 5, 105, 0, 0)
theorem kcX7_readOne : zCal mX7_readOne 0 := ⟨zin (zt3 (List.mem_of_getElem? (i := 89) rfl)) rfl, zin (zt1 (List.mem_of_getElem? (i := 5) (by decide +kernel))) rfl, ⟨by decide +kernel, by decide +kernel, by decide +kernel⟩, by decide +kernel⟩
theorem viX7_readOne : zVir mX7_readOne 7 := ⟨zin (zt3 (List.mem_of_getElem? (i := 88) (by decide +kernel))) rfl, zin (zt0 (List.mem_of_getElem? (i := 0) (by decide +kernel))) rfl, _, _, rfl⟩
theorem imX7_readOne : Cond.instanceMethod yX7_readOne ∈ zTB := zin (zt3 (List.mem_of_getElem? (i := 88) (by decide +kernel))) rfl
abbrev mX7_readHand : zM := (yX7_readHand, cX7_readHand, 4, some .boolean, 3, 63, 0, 0)
theorem kcX7_readHand : zCal mX7_readHand 0 := ⟨zin (zt3 (List.mem_of_getElem? (i := 94) rfl)) rfl, zin (zt1 (List.mem_of_getElem? (i := 5) (by decide +kernel))) rfl, ⟨by decide +kernel, by decide +kernel, by decide +kernel⟩, by decide +kernel⟩
theorem viX7_readHand : zVir mX7_readHand 7 := ⟨zin (zt3 (List.mem_of_getElem? (i := 93) (by decide +kernel))) rfl, zin (zt0 (List.mem_of_getElem? (i := 1) (by decide +kernel))) rfl, _, _, rfl⟩
theorem imX7_readHand : Cond.instanceMethod yX7_readHand ∈ zTB := zin (zt3 (List.mem_of_getElem? (i := 93) (by decide +kernel))) rfl
abbrev mX7_readFinger : zM := (yX7_readFinger, cX7_readFinger, 2, some .boolean, 4, 84, 0, 0)
theorem kcX7_readFinger : zCal mX7_readFinger 0 := ⟨zin (zt3 (List.mem_of_getElem? (i := 107) rfl)) rfl, zin (zt1 (List.mem_of_getElem? (i := 5) (by decide +kernel))) rfl, ⟨by decide +kernel, by decide +kernel, by decide +kernel⟩, by decide +kernel⟩
theorem viX7_readFinger : zVir mX7_readFinger 7 := ⟨zin (zt3 (List.mem_of_getElem? (i := 106) (by decide +kernel))) rfl, zin (zt0 (List.mem_of_getElem? (i := 3) (by decide +kernel))) rfl, _, _, rfl⟩
theorem imX7_readFinger : Cond.instanceMethod yX7_readFinger ∈ zTB := zin (zt3 (List.mem_of_getElem? (i := 106) (by decide +kernel))) rfl
abbrev mX7_readJoint : zM := (yX7_readJoint, cX7_readJoint, 2, some .boolean, 3, 63, 0, 0)
theorem kcX7_readJoint : zCal mX7_readJoint 0 := ⟨zin (zt3 (List.mem_of_getElem? (i := 115) rfl)) rfl, zin (zt1 (List.mem_of_getElem? (i := 5) (by decide +kernel))) rfl, ⟨by decide +kernel, by decide +kernel, by decide +kernel⟩, by decide +kernel⟩
theorem viX7_readJoint : zVir mX7_readJoint 7 := ⟨zin (zt3 (List.mem_of_getElem? (i := 114) (by decide +kernel))) rfl, zin (zt0 (List.mem_of_getElem? (i := 4) (by decide +kernel))) rfl, _, _, rfl⟩
theorem imX7_readJoint : Cond.instanceMethod yX7_readJoint ∈ zTB := zin (zt3 (List.mem_of_getElem? (i := 114) (by decide +kernel))) rfl
abbrev mX7_isTurn : zM := (yX7_isTurn, cX7_isTurn, 1, some .boolean, 0, 0, 0, 0)
theorem kcX7_isTurn : zCal mX7_isTurn 1 := ⟨zin (zt3 (List.mem_of_getElem? (i := 118) rfl)) rfl, zin (zt1 (List.mem_of_getElem? (i := 5) (by decide +kernel))) rfl, ⟨by decide +kernel, by decide +kernel, by decide +kernel⟩, by decide +kernel⟩
theorem smX7_isTurn : Cond.static yX7_isTurn ∈ zTB := zin (zt3 (List.mem_of_getElem? (i := 117) (by decide +kernel))) rfl
abbrev mX7_figure : zM := (yX7_figure, cX7_figure, 2, some .int, 2, 42, 0, 0)
theorem kcX7_figure : zCal mX7_figure 0 := ⟨zin (zt3 (List.mem_of_getElem? (i := 98) rfl)) rfl, zin (zt1 (List.mem_of_getElem? (i := 5) (by decide +kernel))) rfl, ⟨by decide +kernel, by decide +kernel, by decide +kernel⟩, by decide +kernel⟩
theorem viX7_figure : zVir mX7_figure 7 := ⟨zin (zt3 (List.mem_of_getElem? (i := 97) (by decide +kernel))) rfl, zin (zt0 (List.mem_of_getElem? (i := 2) (by decide +kernel))) rfl, _, _, rfl⟩
theorem imX7_figure : Cond.instanceMethod yX7_figure ∈ zTB := zin (zt3 (List.mem_of_getElem? (i := 97) (by decide +kernel))) rfl
abbrev mX8_init : zM := (yX8_init, cX8_init, 2, none, 1, 21, 1, 40)
theorem kcX8_init : zCal mX8_init 1 := ⟨zin (zt1 (List.mem_of_getElem? (i := 59) rfl)) rfl, zin (zt1 (List.mem_of_getElem? (i := 3) (by decide +kernel))) rfl, ⟨by decide +kernel, by decide +kernel, by decide +kernel⟩, by decide +kernel⟩
theorem imX8_init : Cond.instanceMethod yX8_init ∈ zTB := zin (zt1 (List.mem_of_getElem? (i := 58) (by decide +kernel))) rfl
abbrev mX8_isThere : zM := (yX8_isThere, cX8_isThere, 1, some .boolean, 0, 0, 0, 0)
theorem kcX8_isThere : zCal mX8_isThere 0 := ⟨zin (zt3 (List.mem_of_getElem? (i := 8) rfl)) rfl, zin (zt1 (List.mem_of_getElem? (i := 3) (by decide +kernel))) rfl, ⟨by decide +kernel, by decide +kernel, by decide +kernel⟩, by decide +kernel⟩
theorem viX8_isThere : zVir mX8_isThere 8 := ⟨zin (zt3 (List.mem_of_getElem? (i := 6) (by decide +kernel))) rfl, zin (zt3 (List.mem_of_getElem? (i := 7) (by decide +kernel))) rfl, _, _, rfl⟩
theorem imX8_isThere : Cond.instanceMethod yX8_isThere ∈ zTB := zin (zt3 (List.mem_of_getElem? (i := 6) (by decide +kernel))) rfl
abbrev mX8_lose : zM := (yX8_lose, cX8_lose, 1, none, 0, 0, 0, 0)
theorem kcX8_lose : zCal mX8_lose 0 := ⟨zin (zt3 (List.mem_of_getElem? (i := 37) rfl)) rfl, zin (zt1 (List.mem_of_getElem? (i := 3) (by decide +kernel))) rfl, ⟨by decide +kernel, by decide +kernel, by decide +kernel⟩, by decide +kernel⟩
theorem viX8_lose : zVir mX8_lose 8 := ⟨zin (zt3 (List.mem_of_getElem? (i := 35) (by decide +kernel))) rfl, zin (zt3 (List.mem_of_getElem? (i := 36) (by decide +kernel))) rfl, _, _, rfl⟩
theorem imX8_lose : Cond.instanceMethod yX8_lose ∈ zTB := zin (zt3 (List.mem_of_getElem? (i := 35) (by decide +kernel))) rfl
abbrev mX8_renew : zM := (yX8_renew, cX8_renew, 4, none, 0, 0, 0, 0)
theorem kcX8_renew : zCal mX8_renew 2 := ⟨zin (zt3 (List.mem_of_getElem? (i := 0) rfl)) rfl, zin (zt1 (List.mem_of_getElem? (i := 3) (by decide +kernel))) rfl, ⟨by decide +kernel, by decide +kernel, by decide +kernel⟩, by decide +kernel⟩
theorem viX8_renew : zVir mX8_renew 8 := ⟨zin (zt2 (List.mem_of_getElem? (i := 238) (by decide +kernel))) rfl, zin (zt2 (List.mem_of_getElem? (i := 239) (by decide +kernel))) rfl, _, _, rfl⟩
theorem imX8_renew : Cond.instanceMethod yX8_renew ∈ zTB := zin (zt2 (List.mem_of_getElem? (i := 238) (by decide +kernel))) rfl
abbrev mX8_holds : zM := (yX8_holds, cX8_holds, 2, some .boolean, 0, 0, 0, 0)
theorem kcX8_holds : zCal mX8_holds 1 := ⟨zin (zt3 (List.mem_of_getElem? (i := 12) rfl)) rfl, zin (zt1 (List.mem_of_getElem? (i := 3) (by decide +kernel))) rfl, ⟨by decide +kernel, by decide +kernel, by decide +kernel⟩, by decide +kernel⟩
theorem viX8_holds : zVir mX8_holds 8 := ⟨zin (zt3 (List.mem_of_getElem? (i := 10) (by decide +kernel))) rfl, zin (zt3 (List.mem_of_getElem? (i := 11) (by decide +kernel))) rfl, _, _, rfl⟩
theorem imX8_holds : Cond.instanceMethod yX8_holds ∈ zTB := zin (zt3 (List.mem_of_getElem? (i := 10) (by decide +kernel))) rfl
abbrev mX8_holdsFrom : zM := (yX8_holdsFrom, cX8_holdsFrom, 3, some .boolean, 0, 0, 0, 0)
theorem kcX8_holdsFrom : zCal mX8_holdsFrom 2 := ⟨zin (zt3 (List.mem_of_getElem? (i := 45) rfl)) rfl, zin (zt1 (List.mem_of_getElem? (i := 3) (by decide +kernel))) rfl, ⟨by decide +kernel, by decide +kernel, by decide +kernel⟩, by decide +kernel⟩
theorem viX8_holdsFrom : zVir mX8_holdsFrom 8 := ⟨zin (zt3 (List.mem_of_getElem? (i := 43) (by decide +kernel))) rfl, zin (zt3 (List.mem_of_getElem? (i := 44) (by decide +kernel))) rfl, _, _, rfl⟩
theorem imX8_holdsFrom : Cond.instanceMethod yX8_holdsFrom ∈ zTB := zin (zt3 (List.mem_of_getElem? (i := 43) (by decide +kernel))) rfl
abbrev mX8_get : zM := (yX8_get, cX8_get, 2, some .int, 1, 21, 0, 0)
theorem kcX8_get : zCal mX8_get 1 := ⟨zin (zt3 (List.mem_of_getElem? (i := 16) rfl)) rfl, zin (zt1 (List.mem_of_getElem? (i := 3) (by decide +kernel))) rfl, ⟨by decide +kernel, by decide +kernel, by decide +kernel⟩, by decide +kernel⟩
theorem viX8_get : zVir mX8_get 8 := ⟨zin (zt3 (List.mem_of_getElem? (i := 14) (by decide +kernel))) rfl, zin (zt3 (List.mem_of_getElem? (i := 15) (by decide +kernel))) rfl, _, _, rfl⟩
theorem imX8_get : Cond.instanceMethod yX8_get ∈ zTB := zin (zt3 (List.mem_of_getElem? (i := 14) (by decide +kernel))) rfl
abbrev mX8_set : zM := (yX8_set, cX8_set, 3, none, 1, 21, 0, 0)
theorem kcX8_set : zCal mX8_set 2 := ⟨zin (zt3 (List.mem_of_getElem? (i := 21) rfl)) rfl, zin (zt1 (List.mem_of_getElem? (i := 3) (by decide +kernel))) rfl, ⟨by decide +kernel, by decide +kernel, by decide +kernel⟩, by decide +kernel⟩
theorem viX8_set : zVir mX8_set 8 := ⟨zin (zt3 (List.mem_of_getElem? (i := 19) (by decide +kernel))) rfl, zin (zt3 (List.mem_of_getElem? (i := 20) (by decide +kernel))) rfl, _, _, rfl⟩
theorem imX8_set : Cond.instanceMethod yX8_set ∈ zTB := zin (zt3 (List.mem_of_getElem? (i := 19) (by decide +kernel))) rfl
abbrev mX8_take : zM := (yX8_take, cX8_take, 5, none, 1, 48, 0, 0)
theorem kcX8_take : zCal mX8_take 4 := ⟨zin (zt3 (List.mem_of_getElem? (i := 49) rfl)) rfl, zin (zt1 (List.mem_of_getElem? (i := 3) (by decide +kernel))) rfl, ⟨by decide +kernel, by decide +kernel, by decide +kernel⟩, by decide +kernel⟩
theorem viX8_take : zVir mX8_take 8 := ⟨zin (zt3 (List.mem_of_getElem? (i := 47) (by decide +kernel))) rfl, zin (zt3 (List.mem_of_getElem? (i := 48) (by decide +kernel))) rfl, _, _, rfl⟩
theorem imX8_take : Cond.instanceMethod yX8_take ∈ zTB := zin (zt3 (List.mem_of_getElem? (i := 47) (by decide +kernel))) rfl
abbrev mX8_sum : zM := (yX8_sum, cX8_sum, 4, some .long, 2, 42, 0, 0)
theorem kcX8_sum : zCal mX8_sum 0 := ⟨zin (zt3 (List.mem_of_getElem? (i := 61) rfl)) rfl, zin (zt1 (List.mem_of_getElem? (i := 3) (by decide +kernel))) rfl, ⟨by decide +kernel, by decide +kernel, by decide +kernel⟩, by decide +kernel⟩
theorem viX8_sum : zVir mX8_sum 8 := ⟨zin (zt3 (List.mem_of_getElem? (i := 59) (by decide +kernel))) rfl, zin (zt3 (List.mem_of_getElem? (i := 60) (by decide +kernel))) rfl, _, _, rfl⟩
theorem imX8_sum : Cond.instanceMethod yX8_sum ∈ zTB := zin (zt3 (List.mem_of_getElem? (i := 59) (by decide +kernel))) rfl
abbrev mX8_hasLines : zM := (yX8_hasLines, cX8_hasLines, 2, some .boolean, 2, 42, 0, 0)
theorem kcX8_hasLines : zCal mX8_hasLines 0 := ⟨zin (zt4 (List.mem_of_getElem? (i := 46) rfl)) rfl, zin (zt1 (List.mem_of_getElem? (i := 3) (by decide +kernel))) rfl, ⟨by decide +kernel, by decide +kernel, by decide +kernel⟩, by decide +kernel⟩
theorem viX8_hasLines : zVir mX8_hasLines 8 := ⟨zin (zt4 (List.mem_of_getElem? (i := 44) (by decide +kernel))) rfl, zin (zt4 (List.mem_of_getElem? (i := 45) (by decide +kernel))) rfl, _, _, rfl⟩
theorem imX8_hasLines : Cond.instanceMethod yX8_hasLines ∈ zTB := zin (zt4 (List.mem_of_getElem? (i := 44) (by decide +kernel))) rfl
abbrev mX8_showCells : zM := (yX8_showCells, cX8_showCells, 3, none, 2, 43, 0, 0)
theorem kcX8_showCells : zCal mX8_showCells 1 := ⟨zin (zt4 (List.mem_of_getElem? (i := 86) rfl)) rfl, zin (zt1 (List.mem_of_getElem? (i := 3) (by decide +kernel))) rfl, ⟨by decide +kernel, by decide +kernel, by decide +kernel⟩, by decide +kernel⟩
theorem viX8_showCells : zVir mX8_showCells 8 := ⟨zin (zt4 (List.mem_of_getElem? (i := 84) (by decide +kernel))) rfl, zin (zt4 (List.mem_of_getElem? (i := 85) (by decide +kernel))) rfl, _, _, rfl⟩
theorem imX8_showCells : Cond.instanceMethod yX8_showCells ∈ zTB := zin (zt4 (List.mem_of_getElem? (i := 84) (by decide +kernel))) rfl
abbrev mX8_showTo : zM := (yX8_showTo, cX8_showTo, 3, none, 2, 42, 0, 0)
theorem kcX8_showTo : zCal mX8_showTo 1 := ⟨zin (zt4 (List.mem_of_getElem? (i := 50) rfl)) rfl, zin (zt1 (List.mem_of_getElem? (i := 3) (by decide +kernel))) rfl, ⟨by decide +kernel, by decide +kernel, by decide +kernel⟩, by decide +kernel⟩
theorem viX8_showTo : zVir mX8_showTo 8 := ⟨zin (zt4 (List.mem_of_getElem? (i := 48) (by decide +kernel))) rfl, zin (zt4 (List.mem_of_getElem? (i := 49) (by decide +kernel))) rfl, _, _, rfl⟩
theorem imX8_showTo : Cond.instanceMethod yX8_showTo ∈ zTB := zin (zt4 (List.mem_of_getElem? (i := 48) (by decide +kernel))) rfl
abbrev mX8_digestOn : zM := (yX8_digestOn, cX8_digestOn, 4, some .long, 2, 42, 0, 0)
theorem kcX8_digestOn : zCal mX8_digestOn 1 := ⟨zin (zt6 (List.mem_of_getElem? (i := 28) rfl)) rfl, zin (zt1 (List.mem_of_getElem? (i := 3) (by decide +kernel))) rfl, ⟨by decide +kernel, by decide +kernel, by decide +kernel⟩, by decide +kernel⟩
theorem viX8_digestOn : zVir mX8_digestOn 8 := ⟨zin (zt6 (List.mem_of_getElem? (i := 26) (by decide +kernel))) rfl, zin (zt6 (List.mem_of_getElem? (i := 27) (by decide +kernel))) rfl, _, _, rfl⟩
theorem imX8_digestOn : Cond.instanceMethod yX8_digestOn ∈ zTB := zin (zt6 (List.mem_of_getElem? (i := 26) (by decide +kernel))) rfl
abbrev mX9_init : zM := (yX9_init, cX9_init, 1, none, 1, 20, 1, 6)
theorem kcX9_init : zCal mX9_init 0 := ⟨zin (zt1 (List.mem_of_getElem? (i := 30) rfl)) rfl, zin (zt1 (List.mem_of_getElem? (i := 2) (by decide +kernel))) rfl, ⟨by decide +kernel, by decide +kernel, by decide +kernel⟩, by decide +kernel⟩
theorem imX9_init : Cond.instanceMethod yX9_init ∈ zTB := zin (zt1 (List.mem_of_getElem? (i := 29) (by decide +kernel))) rfl
abbrev mX9_tell : zM := (yX9_tell, cX9_tell, 2, some .int, 0, 0, 0, 0)
theorem kcX9_tell : zCal mX9_tell 1 := ⟨zin (zt3 (List.mem_of_getElem? (i := 25) rfl)) rfl, zin (zt1 (List.mem_of_getElem? (i := 2) (by decide +kernel))) rfl, ⟨by decide +kernel, by decide +kernel, by decide +kernel⟩, by decide +kernel⟩
theorem viX9_tell : zVir mX9_tell 9 := ⟨zin (zt3 (List.mem_of_getElem? (i := 23) (by decide +kernel))) rfl, zin (zt3 (List.mem_of_getElem? (i := 24) (by decide +kernel))) rfl, _, _, rfl⟩
theorem imX9_tell : Cond.instanceMethod yX9_tell ∈ zTB := zin (zt3 (List.mem_of_getElem? (i := 23) (by decide +kernel))) rfl
abbrev mX9_find : zM := (yX9_find, cX9_find, 2, some .int, 0, 0, 0, 0)
theorem kcX9_find : zCal mX9_find 1 := ⟨zin (zt2 (List.mem_of_getElem? (i := 236) rfl)) rfl, zin (zt1 (List.mem_of_getElem? (i := 2) (by decide +kernel))) rfl, ⟨by decide +kernel, by decide +kernel, by decide +kernel⟩, by decide +kernel⟩
theorem viX9_find : zVir mX9_find 9 := ⟨zin (zt2 (List.mem_of_getElem? (i := 234) (by decide +kernel))) rfl, zin (zt2 (List.mem_of_getElem? (i := 235) (by decide +kernel))) rfl, _, _, rfl⟩
theorem imX9_find : Cond.instanceMethod yX9_find ∈ zTB := zin (zt2 (List.mem_of_getElem? (i := 234) (by decide +kernel))) rfl
abbrev mX9_share : zM := (yX9_share, cX9_share, 7, none, 0, 0, 0, 0)
theorem kcX9_share : zCal mX9_share 2 := ⟨zin (zt5 (List.mem_of_getElem? (i := 193) rfl)) rfl, zin (zt1 (List.mem_of_getElem? (i := 2) (by decide +kernel))) rfl, ⟨by decide +kernel, by decide +kernel, by decide +kernel⟩, by decide +kernel⟩
theorem viX9_share : zVir mX9_share 9 := ⟨zin (zt5 (List.mem_of_getElem? (i := 191) (by decide +kernel))) rfl, zin (zt5 (List.mem_of_getElem? (i := 192) (by decide +kernel))) rfl, _, _, rfl⟩
theorem imX9_share : Cond.instanceMethod yX9_share ∈ zTB := zin (zt5 (List.mem_of_getElem? (i := 191) (by decide +kernel))) rfl
abbrev mX10_init : zM := (yX10_init, cX10_init, 1, none, 1, 20, 15, 10336)
theorem kcX10_init : zCal mX10_init 0 := ⟨zin (zt2 (List.mem_of_getElem? (i := 136) rfl)) rfl, zin (zt1 (List.mem_of_getElem? (i := 13) (by decide +kernel))) rfl, ⟨by decide +kernel, by decide +kernel, by decide +kernel⟩, by decide +kernel⟩
theorem imX10_init : Cond.instanceMethod yX10_init ∈ zTB := zin (zt2 (List.mem_of_getElem? (i := 135) (by decide +kernel))) rfl
abbrev mX10_openHeld : zM := (yX10_openHeld, cX10_openHeld, 4, none, 2, 43, 0, 0)
theorem kcX10_openHeld : zCal mX10_openHeld 2 := ⟨zin (zt4 (List.mem_of_getElem? (i := 236) rfl)) rfl, zin (zt1 (List.mem_of_getElem? (i := 13) (by decide +kernel))) rfl, ⟨by decide +kernel, by decide +kernel, by decide +kernel⟩, by decide +kernel⟩
theorem viX10_openHeld : zVir mX10_openHeld 10 := ⟨zin (zt4 (List.mem_of_getElem? (i := 234) (by decide +kernel))) rfl, zin (zt4 (List.mem_of_getElem? (i := 235) (by decide +kernel))) rfl, _, _, rfl⟩
theorem imX10_openHeld : Cond.instanceMethod yX10_openHeld ∈ zTB := zin (zt4 (List.mem_of_getElem? (i := 234) (by decide +kernel))) rfl
abbrev mX10_closeSeen : zM := (yX10_closeSeen, cX10_closeSeen, 7, none, 4, 91, 0, 0)
theorem kcX10_closeSeen : zCal mX10_closeSeen 5 := ⟨zin (zt5 (List.mem_of_getElem? (i := 29) rfl)) rfl, zin (zt1 (List.mem_of_getElem? (i := 13) (by decide +kernel))) rfl, ⟨by decide +kernel, by decide +kernel, by decide +kernel⟩, by decide +kernel⟩
theorem viX10_closeSeen : zVir mX10_closeSeen 10 := ⟨zin (zt5 (List.mem_of_getElem? (i := 27) (by decide +kernel))) rfl, zin (zt5 (List.mem_of_getElem? (i := 28) (by decide +kernel))) rfl, _, _, rfl⟩
theorem imX10_closeSeen : Cond.instanceMethod yX10_closeSeen ∈ zTB := zin (zt5 (List.mem_of_getElem? (i := 27) (by decide +kernel))) rfl
abbrev mX10_length : zM := (yX10_length, cX10_length, 5, some .int, 3, 74, 0, 0)
theorem kcX10_length : zCal mX10_length 4 := ⟨zin (zt5 (List.mem_of_getElem? (i := 9) rfl)) rfl, zin (zt1 (List.mem_of_getElem? (i := 13) (by decide +kernel))) rfl, ⟨by decide +kernel, by decide +kernel, by decide +kernel⟩, by decide +kernel⟩
theorem viX10_length : zVir mX10_length 10 := ⟨zin (zt5 (List.mem_of_getElem? (i := 7) (by decide +kernel))) rfl, zin (zt5 (List.mem_of_getElem? (i := 8) (by decide +kernel))) rfl, _, _, rfl⟩
theorem imX10_length : Cond.instanceMethod yX10_length ∈ zTB := zin (zt5 (List.mem_of_getElem? (i := 7) (by decide +kernel))) rfl
abbrev mX10_farOf : zM := (yX10_farOf, cX10_farOf, 2, some .int, 0, 0, 0, 0)
theorem kcX10_farOf : zCal mX10_farOf 1 := ⟨zin (zt5 (List.mem_of_getElem? (i := 21) rfl)) rfl, zin (zt1 (List.mem_of_getElem? (i := 13) (by decide +kernel))) rfl, ⟨by decide +kernel, by decide +kernel, by decide +kernel⟩, by decide +kernel⟩
theorem viX10_farOf : zVir mX10_farOf 10 := ⟨zin (zt5 (List.mem_of_getElem? (i := 20) (by decide +kernel))) rfl, zin (zt0 (List.mem_of_getElem? (i := 19) (by decide +kernel))) rfl, _, _, rfl⟩
theorem imX10_farOf : Cond.instanceMethod yX10_farOf ∈ zTB := zin (zt5 (List.mem_of_getElem? (i := 20) (by decide +kernel))) rfl
abbrev mX10_walk : zM := (yX10_walk, cX10_walk, 12, none, 2, 43, 0, 0)
theorem kcX10_walk : zCal mX10_walk 4 := ⟨zin (zt5 (List.mem_of_getElem? (i := 13) rfl)) rfl, zin (zt1 (List.mem_of_getElem? (i := 13) (by decide +kernel))) rfl, ⟨by decide +kernel, by decide +kernel, by decide +kernel⟩, by decide +kernel⟩
theorem viX10_walk : zVir mX10_walk 10 := ⟨zin (zt5 (List.mem_of_getElem? (i := 12) (by decide +kernel))) rfl, zin (zt0 (List.mem_of_getElem? (i := 17) (by decide +kernel))) rfl, _, _, rfl⟩
theorem imX10_walk : Cond.instanceMethod yX10_walk ∈ zTB := zin (zt5 (List.mem_of_getElem? (i := 12) (by decide +kernel))) rfl
abbrev mX10_come : zM := (yX10_come, cX10_come, 3, none, 1, 21, 0, 0)
theorem kcX10_come : zCal mX10_come 2 := ⟨zin (zt5 (List.mem_of_getElem? (i := 17) rfl)) rfl, zin (zt1 (List.mem_of_getElem? (i := 13) (by decide +kernel))) rfl, ⟨by decide +kernel, by decide +kernel, by decide +kernel⟩, by decide +kernel⟩
theorem viX10_come : zVir mX10_come 10 := ⟨zin (zt5 (List.mem_of_getElem? (i := 16) (by decide +kernel))) rfl, zin (zt0 (List.mem_of_getElem? (i := 18) (by decide +kernel))) rfl, _, _, rfl⟩
theorem imX10_come : Cond.instanceMethod yX10_come ∈ zTB := zin (zt5 (List.mem_of_getElem? (i := 16) (by decide +kernel))) rfl
abbrev mX10_beginOrder : zM := (yX10_beginOrder, cX10_beginOrder, 1, none, 0, 0, 0, 0)
theorem kcX10_beginOrder : zCal mX10_beginOrder 0 := ⟨zin (zt5 (List.mem_of_getElem? (i := 66) rfl)) rfl, zin (zt1 (List.mem_of_getElem? (i := 13) (by decide +kernel))) rfl, ⟨by decide +kernel, by decide +kernel, by decide +kernel⟩, by decide +kernel⟩
theorem viX10_beginOrder : zVir mX10_beginOrder 10 := ⟨zin (zt5 (List.mem_of_getElem? (i := 64) (by decide +kernel))) rfl, zin (zt5 (List.mem_of_getElem? (i := 65) (by decide +kernel))) rfl, _, _, rfl⟩
theorem imX10_beginOrder : Cond.instanceMethod yX10_beginOrder ∈ zTB := zin (zt5 (List.mem_of_getElem? (i := 64) (by decide +kernel))) rfl
abbrev mX10_addStop : zM := (yX10_addStop, cX10_addStop, 3, none, 0, 0, 0, 0)
theorem kcX10_addStop : zCal mX10_addStop 2 := ⟨zin (zt5 (List.mem_of_getElem? (i := 70) rfl)) rfl, zin (zt1 (List.mem_of_getElem? (i := 13) (by decide +kernel))) rfl, ⟨by decide +kernel, by decide +kernel, by decide +kernel⟩, by decide +kernel⟩
theorem viX10_addStop : zVir mX10_addStop 10 := ⟨zin (zt5 (List.mem_of_getElem? (i := 68) (by decide +kernel))) rfl, zin (zt5 (List.mem_of_getElem? (i := 69) (by decide +kernel))) rfl, _, _, rfl⟩
theorem imX10_addStop : Cond.instanceMethod yX10_addStop ∈ zTB := zin (zt5 (List.mem_of_getElem? (i := 68) (by decide +kernel))) rfl
abbrev mX10_orderStops : zM := (yX10_orderStops, cX10_orderStops, 7, some .int, 4, 95, 0, 0)
theorem kcX10_orderStops : zCal mX10_orderStops 3 := ⟨zin (zt5 (List.mem_of_getElem? (i := 74) rfl)) rfl, zin (zt1 (List.mem_of_getElem? (i := 13) (by decide +kernel))) rfl, ⟨by decide +kernel, by decide +kernel, by decide +kernel⟩, by decide +kernel⟩
theorem viX10_orderStops : zVir mX10_orderStops 10 := ⟨zin (zt5 (List.mem_of_getElem? (i := 72) (by decide +kernel))) rfl, zin (zt5 (List.mem_of_getElem? (i := 73) (by decide +kernel))) rfl, _, _, rfl⟩
theorem imX10_orderStops : Cond.instanceMethod yX10_orderStops ∈ zTB := zin (zt5 (List.mem_of_getElem? (i := 72) (by decide +kernel))) rfl
abbrev mX10_restBy : zM := (yX10_restBy, cX10_restBy, 4, some .int, 0, 0, 0, 0)
theorem kcX10_restBy : zCal mX10_restBy 3 := ⟨zin (zt5 (List.mem_of_getElem? (i := 84) rfl)) rfl, zin (zt1 (List.mem_of_getElem? (i := 13) (by decide +kernel))) rfl, ⟨by decide +kernel, by decide +kernel, by decide +kernel⟩, by decide +kernel⟩
theorem viX10_restBy : zVir mX10_restBy 10 := ⟨zin (zt5 (List.mem_of_getElem? (i := 83) (by decide +kernel))) rfl, zin (zt0 (List.mem_of_getElem? (i := 22) (by decide +kernel))) rfl, _, _, rfl⟩
theorem imX10_restBy : Cond.instanceMethod yX10_restBy ∈ zTB := zin (zt5 (List.mem_of_getElem? (i := 83) (by decide +kernel))) rfl
abbrev mX10_leastRest : zM := (yX10_leastRest, cX10_leastRest, 5, some .int, 1, 23, 0, 0)
theorem kcX10_leastRest : zCal mX10_leastRest 2 := ⟨zin (zt5 (List.mem_of_getElem? (i := 80) rfl)) rfl, zin (zt1 (List.mem_of_getElem? (i := 13) (by decide +kernel))) rfl, ⟨by decide +kernel, by decide +kernel, by decide +kernel⟩, by decide +kernel⟩
theorem viX10_leastRest : zVir mX10_leastRest 10 := ⟨zin (zt5 (List.mem_of_getElem? (i := 79) (by decide +kernel))) rfl, zin (zt0 (List.mem_of_getElem? (i := 21) (by decide +kernel))) rfl, _, _, rfl⟩
theorem imX10_leastRest : Cond.instanceMethod yX10_leastRest ∈ zTB := zin (zt5 (List.mem_of_getElem? (i := 79) (by decide +kernel))) rfl
abbrev mX10_putInOrder : zM := (yX10_putInOrder, cX10_putInOrder, 5, none, 3, 71, 0, 0)
theorem kcX10_putInOrder : zCal mX10_putInOrder 0 := ⟨zin (zt5 (List.mem_of_getElem? (i := 89) rfl)) rfl, zin (zt1 (List.mem_of_getElem? (i := 13) (by decide +kernel))) rfl, ⟨by decide +kernel, by decide +kernel, by decide +kernel⟩, by decide +kernel⟩
theorem viX10_putInOrder : zVir mX10_putInOrder 10 := ⟨zin (zt5 (List.mem_of_getElem? (i := 88) (by decide +kernel))) rfl, zin (zt0 (List.mem_of_getElem? (i := 23) (by decide +kernel))) rfl, _, _, rfl⟩
theorem imX10_putInOrder : Cond.instanceMethod yX10_putInOrder ∈ zTB := zin (zt5 (List.mem_of_getElem? (i := 88) (by decide +kernel))) rfl
abbrev mX10_firstNext : zM := (yX10_firstNext, cX10_firstNext, 5, some .int, 2, 47, 0, 0)
theorem kcX10_firstNext : zCal mX10_firstNext 2 := ⟨zin (zt5 (List.mem_of_getElem? (i := 93) rfl)) rfl, zin (zt1 (List.mem_of_getElem? (i := 13) (by decide +kernel))) rfl, ⟨by decide +kernel, by decide +kernel, by decide +kernel⟩, by decide +kernel⟩
theorem viX10_firstNext : zVir mX10_firstNext 10 := ⟨zin (zt5 (List.mem_of_getElem? (i := 92) (by decide +kernel))) rfl, zin (zt0 (List.mem_of_getElem? (i := 24) (by decide +kernel))) rfl, _, _, rfl⟩
theorem imX10_firstNext : Cond.instanceMethod yX10_firstNext ∈ zTB := zin (zt5 (List.mem_of_getElem? (i := 92) (by decide +kernel))) rfl
abbrev mX11_init : zM := (yX11_init, cX11_init, 2, none, 3, 60, 165, 34536)
theorem kcX11_init : zCal mX11_init 0 := ⟨zin (zt1 (List.mem_of_getElem? (i := 22) rfl)) rfl, zin (zt1 (List.mem_of_getElem? (i := 1) (by decide +kernel))) rfl, ⟨by decide +kernel, by decide +kernel, by decide +kernel⟩, by decide +kernel⟩
theorem imX11_init : Cond.instanceMethod yX11_init ∈ zTB := zin (zt1 (List.mem_of_getElem? (i := 21) (by decide +kernel))) rfl
abbrev mX11_row : zM := (yX11_row, cX11_row, 3, some .int, 1, 23, 0, 0)
theorem kcX11_row : zCal mX11_row 2 := ⟨zin (zt2 (List.mem_of_getElem? (i := 229) rfl)) rfl, zin (zt1 (List.mem_of_getElem? (i := 1) (by decide +kernel))) rfl, ⟨by decide +kernel, by decide +kernel, by decide +kernel⟩, by decide +kernel⟩
theorem viX11_row : zVir mX11_row 11 := ⟨zin (zt2 (List.mem_of_getElem? (i := 227) (by decide +kernel))) rfl, zin (zt2 (List.mem_of_getElem? (i := 228) (by decide +kernel))) rfl, _, _, rfl⟩
theorem imX11_row : Cond.instanceMethod yX11_row ∈ zTB := zin (zt2 (List.mem_of_getElem? (i := 227) (by decide +kernel))) rfl
abbrev mX11_lay : zM := (yX11_lay, cX11_lay, 6, some .int, 2, 43, 0, 0)
theorem kcX11_lay : zCal mX11_lay 3 := ⟨zin (zt3 (List.mem_of_getElem? (i := 4) rfl)) rfl, zin (zt1 (List.mem_of_getElem? (i := 1) (by decide +kernel))) rfl, ⟨by decide +kernel, by decide +kernel, by decide +kernel⟩, by decide +kernel⟩
theorem viX11_lay : zVir mX11_lay 11 := ⟨zin (zt3 (List.mem_of_getElem? (i := 2) (by decide +kernel))) rfl, zin (zt3 (List.mem_of_getElem? (i := 3) (by decide +kernel))) rfl, _, _, rfl⟩
theorem imX11_lay : Cond.instanceMethod yX11_lay ∈ zTB := zin (zt3 (List.mem_of_getElem? (i := 2) (by decide +kernel))) rfl
abbrev mX11_at : zM := (yX11_at, cX11_at, 4, some .int, 2, 42, 0, 0)
theorem kcX11_at : zCal mX11_at 2 := ⟨zin (zt3 (List.mem_of_getElem? (i := 29) rfl)) rfl, zin (zt1 (List.mem_of_getElem? (i := 1) (by decide +kernel))) rfl, ⟨by decide +kernel, by decide +kernel, by decide +kernel⟩, by decide +kernel⟩
theorem viX11_at : zVir mX11_at 11 := ⟨zin (zt3 (List.mem_of_getElem? (i := 27) (by decide +kernel))) rfl, zin (zt3 (List.mem_of_getElem? (i := 28) (by decide +kernel))) rfl, _, _, rfl⟩
theorem imX11_at : Cond.instanceMethod yX11_at ∈ zTB := zin (zt3 (List.mem_of_getElem? (i := 27) (by decide +kernel))) rfl
abbrev mX11_tear : zM := (yX11_tear, cX11_tear, 2, some .int, 1, 21, 0, 0)
theorem kcX11_tear : zCal mX11_tear 1 := ⟨zin (zt3 (List.mem_of_getElem? (i := 33) rfl)) rfl, zin (zt1 (List.mem_of_getElem? (i := 1) (by decide +kernel))) rfl, ⟨by decide +kernel, by decide +kernel, by decide +kernel⟩, by decide +kernel⟩
theorem viX11_tear : zVir mX11_tear 11 := ⟨zin (zt3 (List.mem_of_getElem? (i := 31) (by decide +kernel))) rfl, zin (zt3 (List.mem_of_getElem? (i := 32) (by decide +kernel))) rfl, _, _, rfl⟩
theorem imX11_tear : Cond.instanceMethod yX11_tear ∈ zTB := zin (zt3 (List.mem_of_getElem? (i := 31) (by decide +kernel))) rfl
abbrev mX11_copy : zM := (yX11_copy, cX11_copy, 6, some .int, 2, 72, 0, 0)
theorem kcX11_copy : zCal mX11_copy 5 := ⟨zin (zt3 (List.mem_of_getElem? (i := 41) rfl)) rfl, zin (zt1 (List.mem_of_getElem? (i := 1) (by decide +kernel))) rfl, ⟨by decide +kernel, by decide +kernel, by decide +kernel⟩, by decide +kernel⟩
theorem viX11_copy : zVir mX11_copy 11 := ⟨zin (zt3 (List.mem_of_getElem? (i := 39) (by decide +kernel))) rfl, zin (zt3 (List.mem_of_getElem? (i := 40) (by decide +kernel))) rfl, _, _, rfl⟩
theorem imX11_copy : Cond.instanceMethod yX11_copy ∈ zTB := zin (zt3 (List.mem_of_getElem? (i := 39) (by decide +kernel))) rfl
abbrev mX11_mean : zM := (yX11_mean, cX11_mean, 3, some .int, 3, 65, 0, 0)
theorem kcX11_mean : zCal mX11_mean 1 := ⟨zin (zt3 (List.mem_of_getElem? (i := 57) rfl)) rfl, zin (zt1 (List.mem_of_getElem? (i := 1) (by decide +kernel))) rfl, ⟨by decide +kernel, by decide +kernel, by decide +kernel⟩, by decide +kernel⟩
theorem viX11_mean : zVir mX11_mean 11 := ⟨zin (zt3 (List.mem_of_getElem? (i := 55) (by decide +kernel))) rfl, zin (zt3 (List.mem_of_getElem? (i := 56) (by decide +kernel))) rfl, _, _, rfl⟩
theorem imX11_mean : Cond.instanceMethod yX11_mean ∈ zTB := zin (zt3 (List.mem_of_getElem? (i := 55) (by decide +kernel))) rfl
abbrev mX11_text : zM := (yX11_text, cX11_text, 3, some .int, 1, 23, 0, 0)
theorem kcX11_text : zCal mX11_text 2 := ⟨zin (zt3 (List.mem_of_getElem? (i := 66) rfl)) rfl, zin (zt1 (List.mem_of_getElem? (i := 1) (by decide +kernel))) rfl, ⟨by decide +kernel, by decide +kernel, by decide +kernel⟩, by decide +kernel⟩
theorem viX11_text : zVir mX11_text 11 := ⟨zin (zt3 (List.mem_of_getElem? (i := 64) (by decide +kernel))) rfl, zin (zt3 (List.mem_of_getElem? (i := 65) (by decide +kernel))) rfl, _, _, rfl⟩
theorem imX11_text : Cond.instanceMethod yX11_text ∈ zTB := zin (zt3 (List.mem_of_getElem? (i := 64) (by decide +kernel))) rfl
abbrev mX11_put : zM := (yX11_put, cX11_put, 6, some .int, 2, 43, 0, 0)
theorem kcX11_put : zCal mX11_put 3 := ⟨zin (zt3 (List.mem_of_getElem? (i := 73) rfl)) rfl, zin (zt1 (List.mem_of_getElem? (i := 1) (by decide +kernel))) rfl, ⟨by decide +kernel, by decide +kernel, by decide +kernel⟩, by decide +kernel⟩
theorem viX11_put : zVir mX11_put 11 := ⟨zin (zt3 (List.mem_of_getElem? (i := 71) (by decide +kernel))) rfl, zin (zt3 (List.mem_of_getElem? (i := 72) (by decide +kernel))) rfl, _, _, rfl⟩
theorem imX11_put : Cond.instanceMethod yX11_put ∈ zTB := zin (zt3 (List.mem_of_getElem? (i := 71) (by decide +kernel))) rfl
abbrev mX11_fault : zM := (yX11_fault, cX11_fault, 2, some .int, 7, 149, 0, 0)
theorem kcX11_fault : zCal mX11_fault 1 := ⟨zin (zt3 (List.mem_of_getElem? (i := 77) rfl)) rfl, zin (zt1 (List.mem_of_getElem? (i := 1) (by decide +kernel))) rfl, ⟨by decide +kernel, by decide +kernel, by decide +kernel⟩, by decide +kernel⟩
theorem viX11_fault : zVir mX11_fault 11 := ⟨zin (zt3 (List.mem_of_getElem? (i := 75) (by decide +kernel))) rfl, zin (zt3 (List.mem_of_getElem? (i := 76) (by decide +kernel))) rfl, _, _, rfl⟩
theorem imX11_fault : Cond.instanceMethod yX11_fault ∈ zTB := zin (zt3 (List.mem_of_getElem? (i := 75) (by decide +kernel))) rfl
abbrev mX11_hands : zM := (yX11_hands, cX11_hands, 2, some .int, 7, 149, 0, 0)
theorem kcX11_hands : zCal mX11_hands 1 := ⟨zin (zt3 (List.mem_of_getElem? (i := 126) rfl)) rfl, zin (zt1 (List.mem_of_getElem? (i := 1) (by decide +kernel))) rfl, ⟨by decide +kernel, by decide +kernel, by decide +kernel⟩, by decide +kernel⟩
theorem viX11_hands : zVir mX11_hands 11 := ⟨zin (zt3 (List.mem_of_getElem? (i := 124) (by decide +kernel))) rfl, zin (zt3 (List.mem_of_getElem? (i := 125) (by decide +kernel))) rfl, _, _, rfl⟩
theorem imX11_hands : Cond.instanceMethod yX11_hands ∈ zTB := zin (zt3 (List.mem_of_getElem? (i := 124) (by decide +kernel))) rfl
abbrev mX11_finger : zM := (yX11_finger, cX11_finger, 3, some .int, 1, 21, 0, 0)
theorem kcX11_finger : zCal mX11_finger 2 := ⟨zin (zt3 (List.mem_of_getElem? (i := 209) rfl)) rfl, zin (zt1 (List.mem_of_getElem? (i := 1) (by decide +kernel))) rfl, ⟨by decide +kernel, by decide +kernel, by decide +kernel⟩, by decide +kernel⟩
theorem viX11_finger : zVir mX11_finger 11 := ⟨zin (zt3 (List.mem_of_getElem? (i := 207) (by decide +kernel))) rfl, zin (zt3 (List.mem_of_getElem? (i := 208) (by decide +kernel))) rfl, _, _, rfl⟩
theorem imX11_finger : Cond.instanceMethod yX11_finger ∈ zTB := zin (zt3 (List.mem_of_getElem? (i := 207) (by decide +kernel))) rfl
abbrev mX11_joint : zM := (yX11_joint, cX11_joint, 3, some .int, 1, 21, 0, 0)
theorem kcX11_joint : zCal mX11_joint 2 := ⟨zin (zt3 (List.mem_of_getElem? (i := 213) rfl)) rfl, zin (zt1 (List.mem_of_getElem? (i := 1) (by decide +kernel))) rfl, ⟨by decide +kernel, by decide +kernel, by decide +kernel⟩, by decide +kernel⟩
theorem viX11_joint : zVir mX11_joint 11 := ⟨zin (zt3 (List.mem_of_getElem? (i := 211) (by decide +kernel))) rfl, zin (zt3 (List.mem_of_getElem? (i := 212) (by decide +kernel))) rfl, _, _, rfl⟩
theorem imX11_joint : Cond.instanceMethod yX11_joint ∈ zTB := zin (zt3 (List.mem_of_getElem? (i := 211) (by decide +kernel))) rfl
abbrev mX11_strain : zM := (yX11_strain, cX11_strain, 3, some .int, 0, 0, 0, 0)
theorem kcX11_strain : zCal mX11_strain 1 := ⟨zin (zt3 (List.mem_of_getElem? (i := 221) rfl)) rfl, zin (zt1 (List.mem_of_getElem? (i := 1) (by decide +kernel))) rfl, ⟨by decide +kernel, by decide +kernel, by decide +kernel⟩, by decide +kernel⟩
theorem viX11_strain : zVir mX11_strain 11 := ⟨zin (zt3 (List.mem_of_getElem? (i := 219) (by decide +kernel))) rfl, zin (zt3 (List.mem_of_getElem? (i := 220) (by decide +kernel))) rfl, _, _, rfl⟩
theorem imX11_strain : Cond.instanceMethod yX11_strain ∈ zTB := zin (zt3 (List.mem_of_getElem? (i := 219) (by decide +kernel))) rfl
abbrev mX11_lamp : zM := (yX11_lamp, cX11_lamp, 5, some .int, 1, 23, 0, 0)
theorem kcX11_lamp : zCal mX11_lamp 3 := ⟨zin (zt3 (List.mem_of_getElem? (i := 225) rfl)) rfl, zin (zt1 (List.mem_of_getElem? (i := 1) (by decide +kernel))) rfl, ⟨by decide +kernel, by decide +kernel, by decide +kernel⟩, by decide +kernel⟩
theorem viX11_lamp : zVir mX11_lamp 11 := ⟨zin (zt3 (List.mem_of_getElem? (i := 223) (by decide +kernel))) rfl, zin (zt3 (List.mem_of_getElem? (i := 224) (by decide +kernel))) rfl, _, _, rfl⟩
theorem imX11_lamp : Cond.instanceMethod yX11_lamp ∈ zTB := zin (zt3 (List.mem_of_getElem? (i := 223) (by decide +kernel))) rfl
abbrev mX11_pose : zM := (yX11_pose, cX11_pose, 5, some .int, 5, 124, 0, 0)
theorem kcX11_pose : zCal mX11_pose 2 := ⟨zin (zt4 (List.mem_of_getElem? (i := 0) rfl)) rfl, zin (zt1 (List.mem_of_getElem? (i := 1) (by decide +kernel))) rfl, ⟨by decide +kernel, by decide +kernel, by decide +kernel⟩, by decide +kernel⟩
theorem viX11_pose : zVir mX11_pose 11 := ⟨zin (zt3 (List.mem_of_getElem? (i := 238) (by decide +kernel))) rfl, zin (zt3 (List.mem_of_getElem? (i := 239) (by decide +kernel))) rfl, _, _, rfl⟩
theorem imX11_pose : Cond.instanceMethod yX11_pose ∈ zTB := zin (zt3 (List.mem_of_getElem? (i := 238) (by decide +kernel))) rfl
abbrev mX11_help : zM := (yX11_help, cX11_help, 4, some .int, 4, 84, 0, 0)
theorem kcX11_help : zCal mX11_help 2 := ⟨zin (zt4 (List.mem_of_getElem? (i := 31) rfl)) rfl, zin (zt1 (List.mem_of_getElem? (i := 1) (by decide +kernel))) rfl, ⟨by decide +kernel, by decide +kernel, by decide +kernel⟩, by decide +kernel⟩
theorem viX11_help : zVir mX11_help 11 := ⟨zin (zt4 (List.mem_of_getElem? (i := 29) (by decide +kernel))) rfl, zin (zt4 (List.mem_of_getElem? (i := 30) (by decide +kernel))) rfl, _, _, rfl⟩
theorem imX11_help : Cond.instanceMethod yX11_help ∈ zTB := zin (zt4 (List.mem_of_getElem? (i := 29) (by decide +kernel))) rfl
abbrev mX11_back : zM := (yX11_back, cX11_back, 3, some .int, 3, 68, 0, 0)
theorem kcX11_back : zCal mX11_back 1 := ⟨zin (zt4 (List.mem_of_getElem? (i := 66) rfl)) rfl, zin (zt1 (List.mem_of_getElem? (i := 1) (by decide +kernel))) rfl, ⟨by decide +kernel, by decide +kernel, by decide +kernel⟩, by decide +kernel⟩
theorem viX11_back : zVir mX11_back 11 := ⟨zin (zt4 (List.mem_of_getElem? (i := 64) (by decide +kernel))) rfl, zin (zt4 (List.mem_of_getElem? (i := 65) (by decide +kernel))) rfl, _, _, rfl⟩
theorem imX11_back : Cond.instanceMethod yX11_back ∈ zTB := zin (zt4 (List.mem_of_getElem? (i := 64) (by decide +kernel))) rfl
abbrev mX11_about : zM := (yX11_about, cX11_about, 3, some .int, 1, 21, 0, 0)
theorem kcX11_about : zCal mX11_about 2 := ⟨zin (zt4 (List.mem_of_getElem? (i := 70) rfl)) rfl, zin (zt1 (List.mem_of_getElem? (i := 1) (by decide +kernel))) rfl, ⟨by decide +kernel, by decide +kernel, by decide +kernel⟩, by decide +kernel⟩
theorem viX11_about : zVir mX11_about 11 := ⟨zin (zt4 (List.mem_of_getElem? (i := 68) (by decide +kernel))) rfl, zin (zt4 (List.mem_of_getElem? (i := 69) (by decide +kernel))) rfl, _, _, rfl⟩
theorem imX11_about : Cond.instanceMethod yX11_about ∈ zTB := zin (zt4 (List.mem_of_getElem? (i := 68) (by decide +kernel))) rfl
abbrev mX11_turn : zM := (yX11_turn, cX11_turn, 3, some .int, 1, 21, 0, 0)
theorem kcX11_turn : zCal mX11_turn 2 := ⟨zin (zt4 (List.mem_of_getElem? (i := 74) rfl)) rfl, zin (zt1 (List.mem_of_getElem? (i := 1) (by decide +kernel))) rfl, ⟨by decide +kernel, by decide +kernel, by decide +kernel⟩, by decide +kernel⟩
theorem viX11_turn : zVir mX11_turn 11 := ⟨zin (zt4 (List.mem_of_getElem? (i := 72) (by decide +kernel))) rfl, zin (zt4 (List.mem_of_getElem? (i := 73) (by decide +kernel))) rfl, _, _, rfl⟩
theorem imX11_turn : Cond.instanceMethod yX11_turn ∈ zTB := zin (zt4 (List.mem_of_getElem? (i := 72) (by decide +kernel))) rfl
abbrev mX11_mark : zM := (yX11_mark, cX11_mark, 4, some .int, 2, 41, 0, 0)
theorem kcX11_mark : zCal mX11_mark 2 := ⟨zin (zt4 (List.mem_of_getElem? (i := 78) rfl)) rfl, zin (zt1 (List.mem_of_getElem? (i := 1) (by decide +kernel))) rfl, ⟨by decide +kernel, by decide +kernel, by decide +kernel⟩, by decide +kernel⟩
theorem viX11_mark : zVir mX11_mark 11 := ⟨zin (zt4 (List.mem_of_getElem? (i := 76) (by decide +kernel))) rfl, zin (zt4 (List.mem_of_getElem? (i := 77) (by decide +kernel))) rfl, _, _, rfl⟩
theorem imX11_mark : Cond.instanceMethod yX11_mark ∈ zTB := zin (zt4 (List.mem_of_getElem? (i := 76) (by decide +kernel))) rfl
abbrev mX11_shape : zM := (yX11_shape, cX11_shape, 3, some .int, 3, 65, 0, 0)
theorem kcX11_shape : zCal mX11_shape 2 := ⟨zin (zt4 (List.mem_of_getElem? (i := 82) rfl)) rfl, zin (zt1 (List.mem_of_getElem? (i := 1) (by decide +kernel))) rfl, ⟨by decide +kernel, by decide +kernel, by decide +kernel⟩, by decide +kernel⟩
theorem viX11_shape : zVir mX11_shape 11 := ⟨zin (zt4 (List.mem_of_getElem? (i := 80) (by decide +kernel))) rfl, zin (zt4 (List.mem_of_getElem? (i := 81) (by decide +kernel))) rfl, _, _, rfl⟩
theorem imX11_shape : Cond.instanceMethod yX11_shape ∈ zTB := zin (zt4 (List.mem_of_getElem? (i := 80) (by decide +kernel))) rfl
abbrev mX11_thrown : zM := (yX11_thrown, cX11_thrown, 3, some .int, 5, 122, 0, 0)
theorem kcX11_thrown : zCal mX11_thrown 2 := ⟨zin (zt4 (List.mem_of_getElem? (i := 96) rfl)) rfl, zin (zt1 (List.mem_of_getElem? (i := 1) (by decide +kernel))) rfl, ⟨by decide +kernel, by decide +kernel, by decide +kernel⟩, by decide +kernel⟩
theorem viX11_thrown : zVir mX11_thrown 11 := ⟨zin (zt4 (List.mem_of_getElem? (i := 94) (by decide +kernel))) rfl, zin (zt4 (List.mem_of_getElem? (i := 95) (by decide +kernel))) rfl, _, _, rfl⟩
theorem imX11_thrown : Cond.instanceMethod yX11_thrown ∈ zTB := zin (zt4 (List.mem_of_getElem? (i := 94) (by decide +kernel))) rfl
abbrev mX11_beast : zM := (yX11_beast, cX11_beast, 6, some .int, 4, 84, 0, 0)
theorem kcX11_beast : zCal mX11_beast 4 := ⟨zin (zt4 (List.mem_of_getElem? (i := 129) rfl)) rfl, zin (zt1 (List.mem_of_getElem? (i := 1) (by decide +kernel))) rfl, ⟨by decide +kernel, by decide +kernel, by decide +kernel⟩, by decide +kernel⟩
theorem viX11_beast : zVir mX11_beast 11 := ⟨zin (zt4 (List.mem_of_getElem? (i := 127) (by decide +kernel))) rfl, zin (zt4 (List.mem_of_getElem? (i := 128) (by decide +kernel))) rfl, _, _, rfl⟩
theorem imX11_beast : Cond.instanceMethod yX11_beast ∈ zTB := zin (zt4 (List.mem_of_getElem? (i := 127) (by decide +kernel))) rfl
abbrev mX11_off : zM := (yX11_off, cX11_off, 3, some .int, 5, 122, 0, 0)
theorem kcX11_off : zCal mX11_off 2 := ⟨zin (zt4 (List.mem_of_getElem? (i := 136) rfl)) rfl, zin (zt1 (List.mem_of_getElem? (i := 1) (by decide +kernel))) rfl, ⟨by decide +kernel, by decide +kernel, by decide +kernel⟩, by decide +kernel⟩
theorem viX11_off : zVir mX11_off 11 := ⟨zin (zt4 (List.mem_of_getElem? (i := 134) (by decide +kernel))) rfl, zin (zt4 (List.mem_of_getElem? (i := 135) (by decide +kernel))) rfl, _, _, rfl⟩
theorem imX11_off : Cond.instanceMethod yX11_off ∈ zTB := zin (zt4 (List.mem_of_getElem? (i := 134) (by decide +kernel))) rfl
abbrev mX11_many : zM := (yX11_many, cX11_many, 4, some .int, 2, 43, 0, 0)
theorem kcX11_many : zCal mX11_many 0 := ⟨zin (zt4 (List.mem_of_getElem? (i := 155) rfl)) rfl, zin (zt1 (List.mem_of_getElem? (i := 1) (by decide +kernel))) rfl, ⟨by decide +kernel, by decide +kernel, by decide +kernel⟩, by decide +kernel⟩
theorem viX11_many : zVir mX11_many 11 := ⟨zin (zt4 (List.mem_of_getElem? (i := 153) (by decide +kernel))) rfl, zin (zt4 (List.mem_of_getElem? (i := 154) (by decide +kernel))) rfl, _, _, rfl⟩
theorem imX11_many : Cond.instanceMethod yX11_many ∈ zTB := zin (zt4 (List.mem_of_getElem? (i := 153) (by decide +kernel))) rfl
abbrev mX11_nearest : zM := (yX11_nearest, cX11_nearest, 5, some .int, 5, 126, 0, 0)
theorem kcX11_nearest : zCal mX11_nearest 2 := ⟨zin (zt4 (List.mem_of_getElem? (i := 168) rfl)) rfl, zin (zt1 (List.mem_of_getElem? (i := 1) (by decide +kernel))) rfl, ⟨by decide +kernel, by decide +kernel, by decide +kernel⟩, by decide +kernel⟩
theorem viX11_nearest : zVir mX11_nearest 11 := ⟨zin (zt4 (List.mem_of_getElem? (i := 166) (by decide +kernel))) rfl, zin (zt4 (List.mem_of_getElem? (i := 167) (by decide +kernel))) rfl, _, _, rfl⟩
theorem imX11_nearest : Cond.instanceMethod yX11_nearest ∈ zTB := zin (zt4 (List.mem_of_getElem? (i := 166) (by decide +kernel))) rfl
abbrev mX11_never : zM := (yX11_never, cX11_never, 3, some .int, 4, 100, 0, 0)
theorem kcX11_never : zCal mX11_never 2 := ⟨zin (zt4 (List.mem_of_getElem? (i := 193) rfl)) rfl, zin (zt1 (List.mem_of_getElem? (i := 1) (by decide +kernel))) rfl, ⟨by decide +kernel, by decide +kernel, by decide +kernel⟩, by decide +kernel⟩
theorem viX11_never : zVir mX11_never 11 := ⟨zin (zt4 (List.mem_of_getElem? (i := 191) (by decide +kernel))) rfl, zin (zt4 (List.mem_of_getElem? (i := 192) (by decide +kernel))) rfl, _, _, rfl⟩
theorem imX11_never : Cond.instanceMethod yX11_never ∈ zTB := zin (zt4 (List.mem_of_getElem? (i := 191) (by decide +kernel))) rfl
abbrev mX11_sets : zM := (yX11_sets, cX11_sets, 3, some .int, 5, 126, 0, 0)
theorem kcX11_sets : zCal mX11_sets 1 := ⟨zin (zt4 (List.mem_of_getElem? (i := 212) rfl)) rfl, zin (zt1 (List.mem_of_getElem? (i := 1) (by decide +kernel))) rfl, ⟨by decide +kernel, by decide +kernel, by decide +kernel⟩, by decide +kernel⟩
theorem viX11_sets : zVir mX11_sets 11 := ⟨zin (zt4 (List.mem_of_getElem? (i := 210) (by decide +kernel))) rfl, zin (zt4 (List.mem_of_getElem? (i := 211) (by decide +kernel))) rfl, _, _, rfl⟩
theorem imX11_sets : Cond.instanceMethod yX11_sets ∈ zTB := zin (zt4 (List.mem_of_getElem? (i := 210) (by decide +kernel))) rfl
abbrev mX11_way : zM := (yX11_way, cX11_way, 3, some .int, 4, 98, 0, 0)
theorem kcX11_way : zCal mX11_way 2 := ⟨zin (zt4 (List.mem_of_getElem? (i := 232) rfl)) rfl, zin (zt1 (List.mem_of_getElem? (i := 1) (by decide +kernel))) rfl, ⟨by decide +kernel, by decide +kernel, by decide +kernel⟩, by decide +kernel⟩
theorem viX11_way : zVir mX11_way 11 := ⟨zin (zt4 (List.mem_of_getElem? (i := 230) (by decide +kernel))) rfl, zin (zt4 (List.mem_of_getElem? (i := 231) (by decide +kernel))) rfl, _, _, rfl⟩
theorem imX11_way : Cond.instanceMethod yX11_way ∈ zTB := zin (zt4 (List.mem_of_getElem? (i := 230) (by decide +kernel))) rfl
abbrev mX11_unseen : zM := (yX11_unseen, cX11_unseen, 5, some .int, 5, 126, 0, 0)
theorem kcX11_unseen : zCal mX11_unseen 4 := ⟨zin (zt5 (List.mem_of_getElem? (i := 25) rfl)) rfl, zin (zt1 (List.mem_of_getElem? (i := 1) (by decide +kernel))) rfl, ⟨by decide +kernel, by decide +kernel, by decide +kernel⟩, by decide +kernel⟩
theorem viX11_unseen : zVir mX11_unseen 11 := ⟨zin (zt5 (List.mem_of_getElem? (i := 23) (by decide +kernel))) rfl, zin (zt5 (List.mem_of_getElem? (i := 24) (by decide +kernel))) rfl, _, _, rfl⟩
theorem imX11_unseen : Cond.instanceMethod yX11_unseen ∈ zTB := zin (zt5 (List.mem_of_getElem? (i := 23) (by decide +kernel))) rfl
abbrev mX11_where : zM := (yX11_where, cX11_where, 7, some .int, 5, 122, 0, 0)
theorem kcX11_where : zCal mX11_where 2 := ⟨zin (zt5 (List.mem_of_getElem? (i := 34) rfl)) rfl, zin (zt1 (List.mem_of_getElem? (i := 1) (by decide +kernel))) rfl, ⟨by decide +kernel, by decide +kernel, by decide +kernel⟩, by decide +kernel⟩
theorem viX11_where : zVir mX11_where 11 := ⟨zin (zt5 (List.mem_of_getElem? (i := 32) (by decide +kernel))) rfl, zin (zt5 (List.mem_of_getElem? (i := 33) (by decide +kernel))) rfl, _, _, rfl⟩
theorem imX11_where : Cond.instanceMethod yX11_where ∈ zTB := zin (zt5 (List.mem_of_getElem? (i := 32) (by decide +kernel))) rfl
abbrev mX11_picture : zM := (yX11_picture, cX11_picture, 5, some .int, 6, 147, 0, 0)
theorem kcX11_picture : zCal mX11_picture 1 := ⟨zin (zt5 (List.mem_of_getElem? (i := 43) rfl)) rfl, zin (zt1 (List.mem_of_getElem? (i := 1) (by decide +kernel))) rfl, ⟨by decide +kernel, by decide +kernel, by decide +kernel⟩, by decide +kernel⟩
theorem viX11_picture : zVir mX11_picture 11 := ⟨zin (zt5 (List.mem_of_getElem? (i := 41) (by decide +kernel))) rfl, zin (zt5 (List.mem_of_getElem? (i := 42) (by decide +kernel))) rfl, _, _, rfl⟩
theorem imX11_picture : Cond.instanceMethod yX11_picture ∈ zTB := zin (zt5 (List.mem_of_getElem? (i := 41) (by decide +kernel))) rfl
abbrev mX11_order : zM := (yX11_order, cX11_order, 5, some .int, 5, 121, 0, 0)
theorem kcX11_order : zCal mX11_order 2 := ⟨zin (zt5 (List.mem_of_getElem? (i := 56) rfl)) rfl, zin (zt1 (List.mem_of_getElem? (i := 1) (by decide +kernel))) rfl, ⟨by decide +kernel, by decide +kernel, by decide +kernel⟩, by decide +kernel⟩
theorem viX11_order : zVir mX11_order 11 := ⟨zin (zt5 (List.mem_of_getElem? (i := 54) (by decide +kernel))) rfl, zin (zt5 (List.mem_of_getElem? (i := 55) (by decide +kernel))) rfl, _, _, rfl⟩
theorem imX11_order : Cond.instanceMethod yX11_order ∈ zTB := zin (zt5 (List.mem_of_getElem? (i := 54) (by decide +kernel))) rfl
abbrev mX11_two : zM := (yX11_two, cX11_two, 7, some .int, 6, 143, 0, 0)
theorem kcX11_two : zCal mX11_two 2 := ⟨zin (zt5 (List.mem_of_getElem? (i := 97) rfl)) rfl, zin (zt1 (List.mem_of_getElem? (i := 1) (by decide +kernel))) rfl, ⟨by decide +kernel, by decide +kernel, by decide +kernel⟩, by decide +kernel⟩
theorem viX11_two : zVir mX11_two 11 := ⟨zin (zt5 (List.mem_of_getElem? (i := 95) (by decide +kernel))) rfl, zin (zt5 (List.mem_of_getElem? (i := 96) (by decide +kernel))) rfl, _, _, rfl⟩
theorem imX11_two : Cond.instanceMethod yX11_two ∈ zTB := zin (zt5 (List.mem_of_getElem? (i := 95) (by decide +kernel))) rfl
abbrev mX11_stiff : zM := (yX11_stiff, cX11_stiff, 4, some .int, 6, 143, 0, 0)
theorem kcX11_stiff : zCal mX11_stiff 2 := ⟨zin (zt5 (List.mem_of_getElem? (i := 108) rfl)) rfl, zin (zt1 (List.mem_of_getElem? (i := 1) (by decide +kernel))) rfl, ⟨by decide +kernel, by decide +kernel, by decide +kernel⟩, by decide +kernel⟩
theorem viX11_stiff : zVir mX11_stiff 11 := ⟨zin (zt5 (List.mem_of_getElem? (i := 106) (by decide +kernel))) rfl, zin (zt5 (List.mem_of_getElem? (i := 107) (by decide +kernel))) rfl, _, _, rfl⟩
theorem imX11_stiff : Cond.instanceMethod yX11_stiff ∈ zTB := zin (zt5 (List.mem_of_getElem? (i := 106) (by decide +kernel))) rfl
abbrev mX11_looker : zM := (yX11_looker, cX11_looker, 4, some .int, 1, 23, 0, 0)
theorem kcX11_looker : zCal mX11_looker 3 := ⟨zin (zt5 (List.mem_of_getElem? (i := 112) rfl)) rfl, zin (zt1 (List.mem_of_getElem? (i := 1) (by decide +kernel))) rfl, ⟨by decide +kernel, by decide +kernel, by decide +kernel⟩, by decide +kernel⟩
theorem viX11_looker : zVir mX11_looker 11 := ⟨zin (zt5 (List.mem_of_getElem? (i := 110) (by decide +kernel))) rfl, zin (zt5 (List.mem_of_getElem? (i := 111) (by decide +kernel))) rfl, _, _, rfl⟩
theorem imX11_looker : Cond.instanceMethod yX11_looker ∈ zTB := zin (zt5 (List.mem_of_getElem? (i := 110) (by decide +kernel))) rfl
abbrev mX11_weight : zM := (yX11_weight, cX11_weight, 3, some .int, 1, 21, 0, 0)
theorem kcX11_weight : zCal mX11_weight 2 := ⟨zin (zt5 (List.mem_of_getElem? (i := 123) rfl)) rfl, zin (zt1 (List.mem_of_getElem? (i := 1) (by decide +kernel))) rfl, ⟨by decide +kernel, by decide +kernel, by decide +kernel⟩, by decide +kernel⟩
theorem viX11_weight : zVir mX11_weight 11 := ⟨zin (zt5 (List.mem_of_getElem? (i := 121) (by decide +kernel))) rfl, zin (zt5 (List.mem_of_getElem? (i := 122) (by decide +kernel))) rfl, _, _, rfl⟩
theorem imX11_weight : Cond.instanceMethod yX11_weight ∈ zTB := zin (zt5 (List.mem_of_getElem? (i := 121) (by decide +kernel))) rfl
abbrev mX11_call : zM := (yX11_call, cX11_call, 4, some .int, 2, 47, 0, 0)
theorem kcX11_call : zCal mX11_call 3 := ⟨zin (zt5 (List.mem_of_getElem? (i := 131) rfl)) rfl, zin (zt1 (List.mem_of_getElem? (i := 1) (by decide +kernel))) rfl, ⟨by decide +kernel, by decide +kernel, by decide +kernel⟩, by decide +kernel⟩
theorem viX11_call : zVir mX11_call 11 := ⟨zin (zt5 (List.mem_of_getElem? (i := 129) (by decide +kernel))) rfl, zin (zt5 (List.mem_of_getElem? (i := 130) (by decide +kernel))) rfl, _, _, rfl⟩
theorem imX11_call : Cond.instanceMethod yX11_call ∈ zTB := zin (zt5 (List.mem_of_getElem? (i := 129) (by decide +kernel))) rfl
abbrev mX11_guess : zM := (yX11_guess, cX11_guess, 4, some .int, 7, 166, 0, 0)
theorem kcX11_guess : zCal mX11_guess 2 := ⟨zin (zt5 (List.mem_of_getElem? (i := 139) rfl)) rfl, zin (zt1 (List.mem_of_getElem? (i := 1) (by decide +kernel))) rfl, ⟨by decide +kernel, by decide +kernel, by decide +kernel⟩, by decide +kernel⟩
theorem viX11_guess : zVir mX11_guess 11 := ⟨zin (zt5 (List.mem_of_getElem? (i := 137) (by decide +kernel))) rfl, zin (zt5 (List.mem_of_getElem? (i := 138) (by decide +kernel))) rfl, _, _, rfl⟩
theorem imX11_guess : Cond.instanceMethod yX11_guess ∈ zTB := zin (zt5 (List.mem_of_getElem? (i := 137) (by decide +kernel))) rfl
abbrev mX11_agrees : zM := (yX11_agrees, cX11_agrees, 5, some .int, 7, 166, 0, 0)
theorem kcX11_agrees : zCal mX11_agrees 1 := ⟨zin (zt5 (List.mem_of_getElem? (i := 161) rfl)) rfl, zin (zt1 (List.mem_of_getElem? (i := 1) (by decide +kernel))) rfl, ⟨by decide +kernel, by decide +kernel, by decide +kernel⟩, by decide +kernel⟩
theorem viX11_agrees : zVir mX11_agrees 11 := ⟨zin (zt5 (List.mem_of_getElem? (i := 159) (by decide +kernel))) rfl, zin (zt5 (List.mem_of_getElem? (i := 160) (by decide +kernel))) rfl, _, _, rfl⟩
theorem imX11_agrees : Cond.instanceMethod yX11_agrees ∈ zTB := zin (zt5 (List.mem_of_getElem? (i := 159) (by decide +kernel))) rfl
abbrev mX11_fit : zM := (yX11_fit, cX11_fit, 3, some .int, 6, 143, 0, 0)
theorem kcX11_fit : zCal mX11_fit 1 := ⟨zin (zt5 (List.mem_of_getElem? (i := 165) rfl)) rfl, zin (zt1 (List.mem_of_getElem? (i := 1) (by decide +kernel))) rfl, ⟨by decide +kernel, by decide +kernel, by decide +kernel⟩, by decide +kernel⟩
theorem viX11_fit : zVir mX11_fit 11 := ⟨zin (zt5 (List.mem_of_getElem? (i := 163) (by decide +kernel))) rfl, zin (zt5 (List.mem_of_getElem? (i := 164) (by decide +kernel))) rfl, _, _, rfl⟩
theorem imX11_fit : Cond.instanceMethod yX11_fit ∈ zTB := zin (zt5 (List.mem_of_getElem? (i := 163) (by decide +kernel))) rfl
abbrev mX11_odds : zM := (yX11_odds, cX11_odds, 4, some .int, 1, 26, 0, 0)
theorem kcX11_odds : zCal mX11_odds 2 := ⟨zin (zt5 (List.mem_of_getElem? (i := 185) rfl)) rfl, zin (zt1 (List.mem_of_getElem? (i := 1) (by decide +kernel))) rfl, ⟨by decide +kernel, by decide +kernel, by decide +kernel⟩, by decide +kernel⟩
theorem viX11_odds : zVir mX11_odds 11 := ⟨zin (zt5 (List.mem_of_getElem? (i := 183) (by decide +kernel))) rfl, zin (zt5 (List.mem_of_getElem? (i := 184) (by decide +kernel))) rfl, _, _, rfl⟩
theorem imX11_odds : Cond.instanceMethod yX11_odds ∈ zTB := zin (zt5 (List.mem_of_getElem? (i := 183) (by decide +kernel))) rfl
abbrev mX11_asked : zM := (yX11_asked, cX11_asked, 1, some .int, 0, 0, 0, 0)
theorem kcX11_asked : zCal mX11_asked 0 := ⟨zin (zt5 (List.mem_of_getElem? (i := 197) rfl)) rfl, zin (zt1 (List.mem_of_getElem? (i := 1) (by decide +kernel))) rfl, ⟨by decide +kernel, by decide +kernel, by decide +kernel⟩, by decide +kernel⟩
theorem viX11_asked : zVir mX11_asked 11 := ⟨zin (zt5 (List.mem_of_getElem? (i := 195) (by decide +kernel))) rfl, zin (zt5 (List.mem_of_getElem? (i := 196) (by decide +kernel))) rfl, _, _, rfl⟩
theorem imX11_asked : Cond.instanceMethod yX11_asked ∈ zTB := zin (zt5 (List.mem_of_getElem? (i := 195) (by decide +kernel))) rfl
abbrev mX11_upper : zM := (yX11_upper, cX11_upper, 1, some .long, 0, 0, 0, 0)
theorem kcX11_upper : zCal mX11_upper 0 := ⟨zin (zt5 (List.mem_of_getElem? (i := 201) rfl)) rfl, zin (zt1 (List.mem_of_getElem? (i := 1) (by decide +kernel))) rfl, ⟨by decide +kernel, by decide +kernel, by decide +kernel⟩, by decide +kernel⟩
theorem viX11_upper : zVir mX11_upper 11 := ⟨zin (zt5 (List.mem_of_getElem? (i := 199) (by decide +kernel))) rfl, zin (zt5 (List.mem_of_getElem? (i := 200) (by decide +kernel))) rfl, _, _, rfl⟩
theorem imX11_upper : Cond.instanceMethod yX11_upper ∈ zTB := zin (zt5 (List.mem_of_getElem? (i := 199) (by decide +kernel))) rfl
abbrev mX11_lower : zM := (yX11_lower, cX11_lower, 1, some .long, 0, 0, 0, 0)
theorem kcX11_lower : zCal mX11_lower 0 := ⟨zin (zt5 (List.mem_of_getElem? (i := 205) rfl)) rfl, zin (zt1 (List.mem_of_getElem? (i := 1) (by decide +kernel))) rfl, ⟨by decide +kernel, by decide +kernel, by decide +kernel⟩, by decide +kernel⟩
theorem viX11_lower : zVir mX11_lower 11 := ⟨zin (zt5 (List.mem_of_getElem? (i := 203) (by decide +kernel))) rfl, zin (zt5 (List.mem_of_getElem? (i := 204) (by decide +kernel))) rfl, _, _, rfl⟩
theorem imX11_lower : Cond.instanceMethod yX11_lower ∈ zTB := zin (zt5 (List.mem_of_getElem? (i := 203) (by decide +kernel))) rfl
abbrev mX11_count : zM := (yX11_count, cX11_count, 2, some .int, 2, 42, 0, 0)
theorem kcX11_count : zCal mX11_count 1 := ⟨zin (zt5 (List.mem_of_getElem? (i := 209) rfl)) rfl, zin (zt1 (List.mem_of_getElem? (i := 1) (by decide +kernel))) rfl, ⟨by decide +kernel, by decide +kernel, by decide +kernel⟩, by decide +kernel⟩
theorem viX11_count : zVir mX11_count 11 := ⟨zin (zt5 (List.mem_of_getElem? (i := 207) (by decide +kernel))) rfl, zin (zt5 (List.mem_of_getElem? (i := 208) (by decide +kernel))) rfl, _, _, rfl⟩
theorem imX11_count : Cond.instanceMethod yX11_count ∈ zTB := zin (zt5 (List.mem_of_getElem? (i := 207) (by decide +kernel))) rfl
abbrev mX11_finding : zM := (yX11_finding, cX11_finding, 1, some .int, 0, 0, 0, 0)
theorem kcX11_finding : zCal mX11_finding 0 := ⟨zin (zt5 (List.mem_of_getElem? (i := 224) rfl)) rfl, zin (zt1 (List.mem_of_getElem? (i := 1) (by decide +kernel))) rfl, ⟨by decide +kernel, by decide +kernel, by decide +kernel⟩, by decide +kernel⟩
theorem viX11_finding : zVir mX11_finding 11 := ⟨zin (zt5 (List.mem_of_getElem? (i := 222) (by decide +kernel))) rfl, zin (zt5 (List.mem_of_getElem? (i := 223) (by decide +kernel))) rfl, _, _, rfl⟩
theorem imX11_finding : Cond.instanceMethod yX11_finding ∈ zTB := zin (zt5 (List.mem_of_getElem? (i := 222) (by decide +kernel))) rfl
abbrev mX11_findings : zM := (yX11_findings, cX11_findings, 2, some .int, 0, 0, 0, 0)
theorem kcX11_findings : zCal mX11_findings 1 := ⟨zin (zt5 (List.mem_of_getElem? (i := 228) rfl)) rfl, zin (zt1 (List.mem_of_getElem? (i := 1) (by decide +kernel))) rfl, ⟨by decide +kernel, by decide +kernel, by decide +kernel⟩, by decide +kernel⟩
theorem viX11_findings : zVir mX11_findings 11 := ⟨zin (zt5 (List.mem_of_getElem? (i := 226) (by decide +kernel))) rfl, zin (zt5 (List.mem_of_getElem? (i := 227) (by decide +kernel))) rfl, _, _, rfl⟩
theorem imX11_findings : Cond.instanceMethod yX11_findings ∈ zTB := zin (zt5 (List.mem_of_getElem? (i := 226) (by decide +kernel))) rfl
abbrev mX11_digest : zM := (yX11_digest, cX11_digest, 4, some .long, 3, 68, 0, 0)
theorem kcX11_digest : zCal mX11_digest 0 := ⟨zin (zt5 (List.mem_of_getElem? (i := 232) rfl)) rfl, zin (zt1 (List.mem_of_getElem? (i := 1) (by decide +kernel))) rfl, ⟨by decide +kernel, by decide +kernel, by decide +kernel⟩, by decide +kernel⟩
theorem viX11_digest : zVir mX11_digest 11 := ⟨zin (zt5 (List.mem_of_getElem? (i := 230) (by decide +kernel))) rfl, zin (zt5 (List.mem_of_getElem? (i := 231) (by decide +kernel))) rfl, _, _, rfl⟩
theorem imX11_digest : Cond.instanceMethod yX11_digest ∈ zTB := zin (zt5 (List.mem_of_getElem? (i := 230) (by decide +kernel))) rfl
abbrev mX11_isRow : zM := (yX11_isRow, cX11_isRow, 1, some .boolean, 0, 0, 0, 0)
theorem kcX11_isRow : zCal mX11_isRow 1 := ⟨zin (zt2 (List.mem_of_getElem? (i := 232) rfl)) rfl, zin (zt1 (List.mem_of_getElem? (i := 1) (by decide +kernel))) rfl, ⟨by decide +kernel, by decide +kernel, by decide +kernel⟩, by decide +kernel⟩
theorem smX11_isRow : Cond.static yX11_isRow ∈ zTB := zin (zt2 (List.mem_of_getElem? (i := 231) (by decide +kernel))) rfl
abbrev mX11_isText : zM := (yX11_isText, cX11_isText, 1, some .boolean, 0, 0, 0, 0)
theorem kcX11_isText : zCal mX11_isText 1 := ⟨zin (zt3 (List.mem_of_getElem? (i := 69) rfl)) rfl, zin (zt1 (List.mem_of_getElem? (i := 1) (by decide +kernel))) rfl, ⟨by decide +kernel, by decide +kernel, by decide +kernel⟩, by decide +kernel⟩
theorem smX11_isText : Cond.static yX11_isText ∈ zTB := zin (zt3 (List.mem_of_getElem? (i := 68) (by decide +kernel))) rfl
abbrev mX11_isBeast : zM := (yX11_isBeast, cX11_isBeast, 1, some .boolean, 0, 0, 0, 0)
theorem kcX11_isBeast : zCal mX11_isBeast 1 := ⟨zin (zt4 (List.mem_of_getElem? (i := 132) rfl)) rfl, zin (zt1 (List.mem_of_getElem? (i := 1) (by decide +kernel))) rfl, ⟨by decide +kernel, by decide +kernel, by decide +kernel⟩, by decide +kernel⟩
theorem smX11_isBeast : Cond.static yX11_isBeast ∈ zTB := zin (zt4 (List.mem_of_getElem? (i := 131) (by decide +kernel))) rfl
abbrev mX11_isWeight : zM := (yX11_isWeight, cX11_isWeight, 1, some .boolean, 0, 0, 0, 0)
theorem kcX11_isWeight : zCal mX11_isWeight 1 := ⟨zin (zt5 (List.mem_of_getElem? (i := 115) rfl)) rfl, zin (zt1 (List.mem_of_getElem? (i := 1) (by decide +kernel))) rfl, ⟨by decide +kernel, by decide +kernel, by decide +kernel⟩, by decide +kernel⟩
theorem smX11_isWeight : Cond.static yX11_isWeight ∈ zTB := zin (zt5 (List.mem_of_getElem? (i := 114) (by decide +kernel))) rfl
abbrev mX11_isShift : zM := (yX11_isShift, cX11_isShift, 1, some .boolean, 0, 0, 0, 0)
theorem kcX11_isShift : zCal mX11_isShift 1 := ⟨zin (zt3 (List.mem_of_getElem? (i := 228) rfl)) rfl, zin (zt1 (List.mem_of_getElem? (i := 1) (by decide +kernel))) rfl, ⟨by decide +kernel, by decide +kernel, by decide +kernel⟩, by decide +kernel⟩
theorem smX11_isShift : Cond.static yX11_isShift ∈ zTB := zin (zt3 (List.mem_of_getElem? (i := 227) (by decide +kernel))) rfl
abbrev mX11_isJoint : zM := (yX11_isJoint, cX11_isJoint, 2, some .boolean, 0, 0, 0, 0)
theorem kcX11_isJoint : zCal mX11_isJoint 1 := ⟨zin (zt3 (List.mem_of_getElem? (i := 217) rfl)) rfl, zin (zt1 (List.mem_of_getElem? (i := 1) (by decide +kernel))) rfl, ⟨by decide +kernel, by decide +kernel, by decide +kernel⟩, by decide +kernel⟩
theorem viX11_isJoint : zVir mX11_isJoint 11 := ⟨zin (zt3 (List.mem_of_getElem? (i := 216) (by decide +kernel))) rfl, zin (zt0 (List.mem_of_getElem? (i := 10) (by decide +kernel))) rfl, _, _, rfl⟩
theorem imX11_isJoint : Cond.instanceMethod yX11_isJoint ∈ zTB := zin (zt3 (List.mem_of_getElem? (i := 216) (by decide +kernel))) rfl
abbrev mX11_isPose : zM := (yX11_isPose, cX11_isPose, 2, some .boolean, 0, 0, 0, 0)
theorem kcX11_isPose : zCal mX11_isPose 1 := ⟨zin (zt4 (List.mem_of_getElem? (i := 35) rfl)) rfl, zin (zt1 (List.mem_of_getElem? (i := 1) (by decide +kernel))) rfl, ⟨by decide +kernel, by decide +kernel, by decide +kernel⟩, by decide +kernel⟩
theorem viX11_isPose : zVir mX11_isPose 11 := ⟨zin (zt4 (List.mem_of_getElem? (i := 34) (by decide +kernel))) rfl, zin (zt0 (List.mem_of_getElem? (i := 12) (by decide +kernel))) rfl, _, _, rfl⟩
theorem imX11_isPose : Cond.instanceMethod yX11_isPose ∈ zTB := zin (zt4 (List.mem_of_getElem? (i := 34) (by decide +kernel))) rfl
abbrev mX11_isLooker : zM := (yX11_isLooker, cX11_isLooker, 2, some .boolean, 0, 0, 0, 0)
theorem kcX11_isLooker : zCal mX11_isLooker 1 := ⟨zin (zt5 (List.mem_of_getElem? (i := 127) rfl)) rfl, zin (zt1 (List.mem_of_getElem? (i := 1) (by decide +kernel))) rfl, ⟨by decide +kernel, by decide +kernel, by decide +kernel⟩, by decide +kernel⟩
theorem viX11_isLooker : zVir mX11_isLooker 11 := ⟨zin (zt5 (List.mem_of_getElem? (i := 126) (by decide +kernel))) rfl, zin (zt0 (List.mem_of_getElem? (i := 25) (by decide +kernel))) rfl, _, _, rfl⟩
theorem imX11_isLooker : Cond.instanceMethod yX11_isLooker ∈ zTB := zin (zt5 (List.mem_of_getElem? (i := 126) (by decide +kernel))) rfl
abbrev mX11_shadowFinding : zM := (yX11_shadowFinding, cX11_shadowFinding, 2, some .int, 3, 63, 0, 0)
theorem kcX11_shadowFinding : zCal mX11_shadowFinding 2 := ⟨zin (zt4 (List.mem_of_getElem? (i := 42) rfl)) rfl, zin (zt1 (List.mem_of_getElem? (i := 1) (by decide +kernel))) rfl, ⟨by decide +kernel, by decide +kernel, by decide +kernel⟩, by decide +kernel⟩
theorem smX11_shadowFinding : Cond.static yX11_shadowFinding ∈ zTB := zin (zt4 (List.mem_of_getElem? (i := 41) (by decide +kernel))) rfl
abbrev mX11_dropPoses : zM := (yX11_dropPoses, cX11_dropPoses, 2, none, 2, 47, 0, 0)
theorem kcX11_dropPoses : zCal mX11_dropPoses 1 := ⟨zin (zt3 (List.mem_of_getElem? (i := 130) rfl)) rfl, zin (zt1 (List.mem_of_getElem? (i := 1) (by decide +kernel))) rfl, ⟨by decide +kernel, by decide +kernel, by decide +kernel⟩, by decide +kernel⟩
theorem viX11_dropPoses : zVir mX11_dropPoses 11 := ⟨zin (zt3 (List.mem_of_getElem? (i := 129) (by decide +kernel))) rfl, zin (zt0 (List.mem_of_getElem? (i := 5) (by decide +kernel))) rfl, _, _, rfl⟩
theorem imX11_dropPoses : Cond.instanceMethod yX11_dropPoses ∈ zTB := zin (zt3 (List.mem_of_getElem? (i := 129) (by decide +kernel))) rfl
abbrev mX11_placeOf : zM := (yX11_placeOf, cX11_placeOf, 2, some .int, 1, 24, 0, 0)
theorem kcX11_placeOf : zCal mX11_placeOf 1 := ⟨zin (zt5 (List.mem_of_getElem? (i := 1) rfl)) rfl, zin (zt1 (List.mem_of_getElem? (i := 1) (by decide +kernel))) rfl, ⟨by decide +kernel, by decide +kernel, by decide +kernel⟩, by decide +kernel⟩
theorem viX11_placeOf : zVir mX11_placeOf 11 := ⟨zin (zt5 (List.mem_of_getElem? (i := 0) (by decide +kernel))) rfl, zin (zt0 (List.mem_of_getElem? (i := 16) (by decide +kernel))) rfl, _, _, rfl⟩
theorem imX11_placeOf : Cond.instanceMethod yX11_placeOf ∈ zTB := zin (zt5 (List.mem_of_getElem? (i := 0) (by decide +kernel))) rfl
abbrev mX11_numberThrowingBy : zM := (yX11_numberThrowingBy, cX11_numberThrowingBy, 2, some .int, 5, 126, 0, 0)
theorem kcX11_numberThrowingBy : zCal mX11_numberThrowingBy 1 := ⟨zin (zt5 (List.mem_of_getElem? (i := 47) rfl)) rfl, zin (zt1 (List.mem_of_getElem? (i := 1) (by decide +kernel))) rfl, ⟨by decide +kernel, by decide +kernel, by decide +kernel⟩, by decide +kernel⟩
theorem viX11_numberThrowingBy : zVir mX11_numberThrowingBy 11 := ⟨zin (zt5 (List.mem_of_getElem? (i := 46) (by decide +kernel))) rfl, zin (zt0 (List.mem_of_getElem? (i := 20) (by decide +kernel))) rfl, _, _, rfl⟩
theorem imX11_numberThrowingBy : Cond.instanceMethod yX11_numberThrowingBy ∈ zTB := zin (zt5 (List.mem_of_getElem? (i := 46) (by decide +kernel))) rfl
abbrev mX11_look : zM := (yX11_look, cX11_look, 2, none, 5, 122, 0, 0)
theorem kcX11_look : zCal mX11_look 1 := ⟨zin (zt5 (List.mem_of_getElem? (i := 147) rfl)) rfl, zin (zt1 (List.mem_of_getElem? (i := 1) (by decide +kernel))) rfl, ⟨by decide +kernel, by decide +kernel, by decide +kernel⟩, by decide +kernel⟩
theorem viX11_look : zVir mX11_look 11 := ⟨zin (zt5 (List.mem_of_getElem? (i := 146) (by decide +kernel))) rfl, zin (zt0 (List.mem_of_getElem? (i := 27) (by decide +kernel))) rfl, _, _, rfl⟩
theorem imX11_look : Cond.instanceMethod yX11_look ∈ zTB := zin (zt5 (List.mem_of_getElem? (i := 146) (by decide +kernel))) rfl
abbrev mX11_guessed : zM := (yX11_guessed, cX11_guessed, 4, some .int, 6, 143, 0, 0)
theorem kcX11_guessed : zCal mX11_guessed 2 := ⟨zin (zt5 (List.mem_of_getElem? (i := 143) rfl)) rfl, zin (zt1 (List.mem_of_getElem? (i := 1) (by decide +kernel))) rfl, ⟨by decide +kernel, by decide +kernel, by decide +kernel⟩, by decide +kernel⟩
theorem viX11_guessed : zVir mX11_guessed 11 := ⟨zin (zt5 (List.mem_of_getElem? (i := 142) (by decide +kernel))) rfl, zin (zt0 (List.mem_of_getElem? (i := 26) (by decide +kernel))) rfl, _, _, rfl⟩
theorem imX11_guessed : Cond.instanceMethod yX11_guessed ∈ zTB := zin (zt5 (List.mem_of_getElem? (i := 142) (by decide +kernel))) rfl
abbrev mX11_heldPoses : zM := (yX11_heldPoses, cX11_heldPoses, 3, some .int, 1, 20, 0, 0)
theorem kcX11_heldPoses : zCal mX11_heldPoses 0 := ⟨zin (zt5 (List.mem_of_getElem? (i := 213) rfl)) rfl, zin (zt1 (List.mem_of_getElem? (i := 1) (by decide +kernel))) rfl, ⟨by decide +kernel, by decide +kernel, by decide +kernel⟩, by decide +kernel⟩
theorem viX11_heldPoses : zVir mX11_heldPoses 11 := ⟨zin (zt5 (List.mem_of_getElem? (i := 212) (by decide +kernel))) rfl, zin (zt0 (List.mem_of_getElem? (i := 28) (by decide +kernel))) rfl, _, _, rfl⟩
theorem imX11_heldPoses : Cond.instanceMethod yX11_heldPoses ∈ zTB := zin (zt5 (List.mem_of_getElem? (i := 212) (by decide +kernel))) rfl
abbrev mX11_beastsThere : zM := (yX11_beastsThere, cX11_beastsThere, 3, some .int, 0, 0, 0, 0)
theorem kcX11_beastsThere : zCal mX11_beastsThere 0 := ⟨zin (zt5 (List.mem_of_getElem? (i := 217) rfl)) rfl, zin (zt1 (List.mem_of_getElem? (i := 1) (by decide +kernel))) rfl, ⟨by decide +kernel, by decide +kernel, by decide +kernel⟩, by decide +kernel⟩
theorem viX11_beastsThere : zVir mX11_beastsThere 11 := ⟨zin (zt5 (List.mem_of_getElem? (i := 216) (by decide +kernel))) rfl, zin (zt0 (List.mem_of_getElem? (i := 29) (by decide +kernel))) rfl, _, _, rfl⟩
theorem imX11_beastsThere : Cond.instanceMethod yX11_beastsThere ∈ zTB := zin (zt5 (List.mem_of_getElem? (i := 216) (by decide +kernel))) rfl
abbrev mX11_there : zM := (yX11_there, cX11_there, 3, some .int, 1, 20, 0, 0)
theorem kcX11_there : zCal mX11_there 1 := ⟨zin (zt5 (List.mem_of_getElem? (i := 220) rfl)) rfl, zin (zt1 (List.mem_of_getElem? (i := 1) (by decide +kernel))) rfl, ⟨by decide +kernel, by decide +kernel, by decide +kernel⟩, by decide +kernel⟩
theorem smX11_there : Cond.static yX11_there ∈ zTB := zin (zt5 (List.mem_of_getElem? (i := 219) (by decide +kernel))) rfl
abbrev mX11_mix : zM := (yX11_mix, cX11_mix, 4, some .long, 0, 0, 0, 0)
theorem kcX11_mix : zCal mX11_mix 2 := ⟨zin (zt5 (List.mem_of_getElem? (i := 237) rfl)) rfl, zin (zt1 (List.mem_of_getElem? (i := 1) (by decide +kernel))) rfl, ⟨by decide +kernel, by decide +kernel, by decide +kernel⟩, by decide +kernel⟩
theorem smX11_mix : Cond.static yX11_mix ∈ zTB := zin (zt5 (List.mem_of_getElem? (i := 236) (by decide +kernel))) rfl
abbrev mX12_init : zM := (yX12_init, cX12_init, 2, none, 1, 20, 35, 15644)
theorem kcX12_init : zCal mX12_init 0 := ⟨zin (zt6 (List.mem_of_getElem? (i := 34) rfl)) rfl, zin (zt1 (List.mem_of_getElem? (i := 14) (by decide +kernel))) rfl, ⟨by decide +kernel, by decide +kernel, by decide +kernel⟩, by decide +kernel⟩
theorem imX12_init : Cond.instanceMethod yX12_init ∈ zTB := zin (zt6 (List.mem_of_getElem? (i := 33) (by decide +kernel))) rfl
abbrev mX12_in : zM := (yX12_in, cX12_in, 3, some .boolean, 0, 0, 0, 0)
theorem kcX12_in : zCal mX12_in 3 := ⟨zin (zt6 (List.mem_of_getElem? (i := 225) rfl)) rfl, zin (zt1 (List.mem_of_getElem? (i := 14) (by decide +kernel))) rfl, ⟨by decide +kernel, by decide +kernel, by decide +kernel⟩, by decide +kernel⟩
theorem smX12_in : Cond.static yX12_in ∈ zTB := zin (zt6 (List.mem_of_getElem? (i := 224) (by decide +kernel))) rfl
abbrev mX12_has : zM := (yX12_has, cX12_has, 2, some .boolean, 0, 0, 0, 0)
theorem kcX12_has : zCal mX12_has 2 := ⟨zin (zt8 (List.mem_of_getElem? (i := 116) rfl)) rfl, zin (zt1 (List.mem_of_getElem? (i := 14) (by decide +kernel))) rfl, ⟨by decide +kernel, by decide +kernel, by decide +kernel⟩, by decide +kernel⟩
theorem smX12_has : Cond.static yX12_has ∈ zTB := zin (zt8 (List.mem_of_getElem? (i := 115) (by decide +kernel))) rfl
abbrev mX12_bits : zM := (yX12_bits, cX12_bits, 3, some .int, 0, 0, 0, 0)
theorem kcX12_bits : zCal mX12_bits 1 := ⟨zin (zt7 (List.mem_of_getElem? (i := 186) rfl)) rfl, zin (zt1 (List.mem_of_getElem? (i := 14) (by decide +kernel))) rfl, ⟨by decide +kernel, by decide +kernel, by decide +kernel⟩, by decide +kernel⟩
theorem smX12_bits : Cond.static yX12_bits ∈ zTB := zin (zt7 (List.mem_of_getElem? (i := 185) (by decide +kernel))) rfl
abbrev mX12_meets : zM := (yX12_meets, cX12_meets, 2, some .int, 0, 0, 0, 0)
theorem kcX12_meets : zCal mX12_meets 1 := ⟨zin (zt7 (List.mem_of_getElem? (i := 8) rfl)) rfl, zin (zt1 (List.mem_of_getElem? (i := 14) (by decide +kernel))) rfl, ⟨by decide +kernel, by decide +kernel, by decide +kernel⟩, by decide +kernel⟩
theorem viX12_meets : zVir mX12_meets 12 := ⟨zin (zt7 (List.mem_of_getElem? (i := 7) (by decide +kernel))) rfl, zin (zt0 (List.mem_of_getElem? (i := 30) (by decide +kernel))) rfl, _, _, rfl⟩
theorem imX12_meets : Cond.instanceMethod yX12_meets ∈ zTB := zin (zt7 (List.mem_of_getElem? (i := 7) (by decide +kernel))) rfl
abbrev mX12_finding : zM := (yX12_finding, cX12_finding, 1, some .int, 0, 0, 0, 0)
theorem kcX12_finding : zCal mX12_finding 0 := ⟨zin (zt6 (List.mem_of_getElem? (i := 218) rfl)) rfl, zin (zt1 (List.mem_of_getElem? (i := 14) (by decide +kernel))) rfl, ⟨by decide +kernel, by decide +kernel, by decide +kernel⟩, by decide +kernel⟩
theorem viX12_finding : zVir mX12_finding 12 := ⟨zin (zt6 (List.mem_of_getElem? (i := 216) (by decide +kernel))) rfl, zin (zt6 (List.mem_of_getElem? (i := 217) (by decide +kernel))) rfl, _, _, rfl⟩
theorem imX12_finding : Cond.instanceMethod yX12_finding ∈ zTB := zin (zt6 (List.mem_of_getElem? (i := 216) (by decide +kernel))) rfl
abbrev mX12_findings : zM := (yX12_findings, cX12_findings, 2, some .int, 1, 22, 0, 0)
theorem kcX12_findings : zCal mX12_findings 1 := ⟨zin (zt6 (List.mem_of_getElem? (i := 222) rfl)) rfl, zin (zt1 (List.mem_of_getElem? (i := 14) (by decide +kernel))) rfl, ⟨by decide +kernel, by decide +kernel, by decide +kernel⟩, by decide +kernel⟩
theorem viX12_findings : zVir mX12_findings 12 := ⟨zin (zt6 (List.mem_of_getElem? (i := 220) (by decide +kernel))) rfl, zin (zt6 (List.mem_of_getElem? (i := 221) (by decide +kernel))) rfl, _, _, rfl⟩
theorem imX12_findings : Cond.instanceMethod yX12_findings ∈ zTB := zin (zt6 (List.mem_of_getElem? (i := 220) (by decide +kernel))) rfl
abbrev mX12_tells : zM := (yX12_tells, cX12_tells, 3, some .int, 0, 0, 0, 0)
theorem kcX12_tells : zCal mX12_tells 2 := ⟨zin (zt7 (List.mem_of_getElem? (i := 20) rfl)) rfl, zin (zt1 (List.mem_of_getElem? (i := 14) (by decide +kernel))) rfl, ⟨by decide +kernel, by decide +kernel, by decide +kernel⟩, by decide +kernel⟩
theorem viX12_tells : zVir mX12_tells 12 := ⟨zin (zt7 (List.mem_of_getElem? (i := 19) (by decide +kernel))) rfl, zin (zt0 (List.mem_of_getElem? (i := 32) (by decide +kernel))) rfl, _, _, rfl⟩
theorem imX12_tells : Cond.instanceMethod yX12_tells ∈ zTB := zin (zt7 (List.mem_of_getElem? (i := 19) (by decide +kernel))) rfl
abbrev mX12_asked : zM := (yX12_asked, cX12_asked, 1, some .int, 0, 0, 0, 0)
theorem kcX12_asked : zCal mX12_asked 0 := ⟨zin (zt6 (List.mem_of_getElem? (i := 229) rfl)) rfl, zin (zt1 (List.mem_of_getElem? (i := 14) (by decide +kernel))) rfl, ⟨by decide +kernel, by decide +kernel, by decide +kernel⟩, by decide +kernel⟩
theorem viX12_asked : zVir mX12_asked 12 := ⟨zin (zt6 (List.mem_of_getElem? (i := 227) (by decide +kernel))) rfl, zin (zt6 (List.mem_of_getElem? (i := 228) (by decide +kernel))) rfl, _, _, rfl⟩
theorem imX12_asked : Cond.instanceMethod yX12_asked ∈ zTB := zin (zt6 (List.mem_of_getElem? (i := 227) (by decide +kernel))) rfl
abbrev mX12_fraction : zM := (yX12_fraction, cX12_fraction, 12, some .int, 0, 0, 0, 0)
theorem kcX12_fraction : zCal mX12_fraction 3 := ⟨zin (zt8 (List.mem_of_getElem? (i := 177) rfl)) rfl, zin (zt1 (List.mem_of_getElem? (i := 14) (by decide +kernel))) rfl, ⟨by decide +kernel, by decide +kernel, by decide +kernel⟩, by decide +kernel⟩
theorem viX12_fraction : zVir mX12_fraction 12 := ⟨zin (zt8 (List.mem_of_getElem? (i := 176) (by decide +kernel))) rfl, zin (zt0 (List.mem_of_getElem? (i := 85) (by decide +kernel))) rfl, _, _, rfl⟩
theorem imX12_fraction : Cond.instanceMethod yX12_fraction ∈ zTB := zin (zt8 (List.mem_of_getElem? (i := 176) (by decide +kernel))) rfl
abbrev mX12_upper : zM := (yX12_upper, cX12_upper, 1, some .long, 0, 0, 0, 0)
theorem kcX12_upper : zCal mX12_upper 0 := ⟨zin (zt6 (List.mem_of_getElem? (i := 233) rfl)) rfl, zin (zt1 (List.mem_of_getElem? (i := 14) (by decide +kernel))) rfl, ⟨by decide +kernel, by decide +kernel, by decide +kernel⟩, by decide +kernel⟩
theorem viX12_upper : zVir mX12_upper 12 := ⟨zin (zt6 (List.mem_of_getElem? (i := 231) (by decide +kernel))) rfl, zin (zt6 (List.mem_of_getElem? (i := 232) (by decide +kernel))) rfl, _, _, rfl⟩
theorem imX12_upper : Cond.instanceMethod yX12_upper ∈ zTB := zin (zt6 (List.mem_of_getElem? (i := 231) (by decide +kernel))) rfl
abbrev mX12_lower : zM := (yX12_lower, cX12_lower, 1, some .long, 0, 0, 0, 0)
theorem kcX12_lower : zCal mX12_lower 0 := ⟨zin (zt6 (List.mem_of_getElem? (i := 237) rfl)) rfl, zin (zt1 (List.mem_of_getElem? (i := 14) (by decide +kernel))) rfl, ⟨by decide +kernel, by decide +kernel, by decide +kernel⟩, by decide +kernel⟩
theorem viX12_lower : zVir mX12_lower 12 := ⟨zin (zt6 (List.mem_of_getElem? (i := 235) (by decide +kernel))) rfl, zin (zt6 (List.mem_of_getElem? (i := 236) (by decide +kernel))) rfl, _, _, rfl⟩
theorem imX12_lower : Cond.instanceMethod yX12_lower ∈ zTB := zin (zt6 (List.mem_of_getElem? (i := 235) (by decide +kernel))) rfl
abbrev mX12_isRow : zM := (yX12_isRow, cX12_isRow, 1, some .boolean, 1, 22, 0, 0)
theorem kcX12_isRow : zCal mX12_isRow 1 := ⟨zin (zt7 (List.mem_of_getElem? (i := 4) rfl)) rfl, zin (zt1 (List.mem_of_getElem? (i := 14) (by decide +kernel))) rfl, ⟨by decide +kernel, by decide +kernel, by decide +kernel⟩, by decide +kernel⟩
theorem smX12_isRow : Cond.static yX12_isRow ∈ zTB := zin (zt7 (List.mem_of_getElem? (i := 3) (by decide +kernel))) rfl
abbrev mX12_rowAt : zM := (yX12_rowAt, cX12_rowAt, 3, some .int, 0, 0, 0, 0)
theorem kcX12_rowAt : zCal mX12_rowAt 2 := ⟨zin (zt7 (List.mem_of_getElem? (i := 16) rfl)) rfl, zin (zt1 (List.mem_of_getElem? (i := 14) (by decide +kernel))) rfl, ⟨by decide +kernel, by decide +kernel, by decide +kernel⟩, by decide +kernel⟩
theorem viX12_rowAt : zVir mX12_rowAt 12 := ⟨zin (zt7 (List.mem_of_getElem? (i := 15) (by decide +kernel))) rfl, zin (zt0 (List.mem_of_getElem? (i := 31) (by decide +kernel))) rfl, _, _, rfl⟩
theorem imX12_rowAt : Cond.instanceMethod yX12_rowAt ∈ zTB := zin (zt7 (List.mem_of_getElem? (i := 15) (by decide +kernel))) rfl
abbrev mX12_row : zM := (yX12_row, cX12_row, 4, some .int, 2, 42, 0, 0)
theorem kcX12_row : zCal mX12_row 2 := ⟨zin (zt7 (List.mem_of_getElem? (i := 1) rfl)) rfl, zin (zt1 (List.mem_of_getElem? (i := 14) (by decide +kernel))) rfl, ⟨by decide +kernel, by decide +kernel, by decide +kernel⟩, by decide +kernel⟩
theorem viX12_row : zVir mX12_row 12 := ⟨zin (zt6 (List.mem_of_getElem? (i := 239) (by decide +kernel))) rfl, zin (zt7 (List.mem_of_getElem? (i := 0) (by decide +kernel))) rfl, _, _, rfl⟩
theorem imX12_row : Cond.instanceMethod yX12_row ∈ zTB := zin (zt6 (List.mem_of_getElem? (i := 239) (by decide +kernel))) rfl
abbrev mX12_lay : zM := (yX12_lay, cX12_lay, 5, some .int, 2, 42, 0, 0)
theorem kcX12_lay : zCal mX12_lay 3 := ⟨zin (zt7 (List.mem_of_getElem? (i := 12) rfl)) rfl, zin (zt1 (List.mem_of_getElem? (i := 14) (by decide +kernel))) rfl, ⟨by decide +kernel, by decide +kernel, by decide +kernel⟩, by decide +kernel⟩
theorem viX12_lay : zVir mX12_lay 12 := ⟨zin (zt7 (List.mem_of_getElem? (i := 10) (by decide +kernel))) rfl, zin (zt7 (List.mem_of_getElem? (i := 11) (by decide +kernel))) rfl, _, _, rfl⟩
theorem imX12_lay : Cond.instanceMethod yX12_lay ∈ zTB := zin (zt7 (List.mem_of_getElem? (i := 10) (by decide +kernel))) rfl
abbrev mX12_at : zM := (yX12_at, cX12_at, 3, some .int, 2, 42, 0, 0)
theorem kcX12_at : zCal mX12_at 2 := ⟨zin (zt7 (List.mem_of_getElem? (i := 24) rfl)) rfl, zin (zt1 (List.mem_of_getElem? (i := 14) (by decide +kernel))) rfl, ⟨by decide +kernel, by decide +kernel, by decide +kernel⟩, by decide +kernel⟩
theorem viX12_at : zVir mX12_at 12 := ⟨zin (zt7 (List.mem_of_getElem? (i := 22) (by decide +kernel))) rfl, zin (zt7 (List.mem_of_getElem? (i := 23) (by decide +kernel))) rfl, _, _, rfl⟩
theorem imX12_at : Cond.instanceMethod yX12_at ∈ zTB := zin (zt7 (List.mem_of_getElem? (i := 22) (by decide +kernel))) rfl
abbrev mX12_tear : zM := (yX12_tear, cX12_tear, 2, some .int, 2, 42, 0, 0)
theorem kcX12_tear : zCal mX12_tear 1 := ⟨zin (zt7 (List.mem_of_getElem? (i := 28) rfl)) rfl, zin (zt1 (List.mem_of_getElem? (i := 14) (by decide +kernel))) rfl, ⟨by decide +kernel, by decide +kernel, by decide +kernel⟩, by decide +kernel⟩
theorem viX12_tear : zVir mX12_tear 12 := ⟨zin (zt7 (List.mem_of_getElem? (i := 26) (by decide +kernel))) rfl, zin (zt7 (List.mem_of_getElem? (i := 27) (by decide +kernel))) rfl, _, _, rfl⟩
theorem imX12_tear : Cond.instanceMethod yX12_tear ∈ zTB := zin (zt7 (List.mem_of_getElem? (i := 26) (by decide +kernel))) rfl
abbrev mX12_copy : zM := (yX12_copy, cX12_copy, 7, some .int, 2, 42, 0, 0)
theorem kcX12_copy : zCal mX12_copy 5 := ⟨zin (zt7 (List.mem_of_getElem? (i := 32) rfl)) rfl, zin (zt1 (List.mem_of_getElem? (i := 14) (by decide +kernel))) rfl, ⟨by decide +kernel, by decide +kernel, by decide +kernel⟩, by decide +kernel⟩
theorem viX12_copy : zVir mX12_copy 12 := ⟨zin (zt7 (List.mem_of_getElem? (i := 30) (by decide +kernel))) rfl, zin (zt7 (List.mem_of_getElem? (i := 31) (by decide +kernel))) rfl, _, _, rfl⟩
theorem imX12_copy : Cond.instanceMethod yX12_copy ∈ zTB := zin (zt7 (List.mem_of_getElem? (i := 30) (by decide +kernel))) rfl
abbrev mX12_mean : zM := (yX12_mean, cX12_mean, 5, some .int, 2, 42, 0, 0)
theorem kcX12_mean : zCal mX12_mean 1 := ⟨zin (zt7 (List.mem_of_getElem? (i := 36) rfl)) rfl, zin (zt1 (List.mem_of_getElem? (i := 14) (by decide +kernel))) rfl, ⟨by decide +kernel, by decide +kernel, by decide +kernel⟩, by decide +kernel⟩
theorem viX12_mean : zVir mX12_mean 12 := ⟨zin (zt7 (List.mem_of_getElem? (i := 34) (by decide +kernel))) rfl, zin (zt7 (List.mem_of_getElem? (i := 35) (by decide +kernel))) rfl, _, _, rfl⟩
theorem imX12_mean : Cond.instanceMethod yX12_mean ∈ zTB := zin (zt7 (List.mem_of_getElem? (i := 34) (by decide +kernel))) rfl
abbrev mX12_isText : zM := (yX12_isText, cX12_isText, 1, some .boolean, 1, 22, 0, 0)
theorem kcX12_isText : zCal mX12_isText 1 := ⟨zin (zt7 (List.mem_of_getElem? (i := 43) rfl)) rfl, zin (zt1 (List.mem_of_getElem? (i := 14) (by decide +kernel))) rfl, ⟨by decide +kernel, by decide +kernel, by decide +kernel⟩, by decide +kernel⟩
theorem smX12_isText : Cond.static yX12_isText ∈ zTB := zin (zt7 (List.mem_of_getElem? (i := 42) (by decide +kernel))) rfl
abbrev mX12_text : zM := (yX12_text, cX12_text, 4, some .int, 2, 42, 0, 0)
theorem kcX12_text : zCal mX12_text 2 := ⟨zin (zt7 (List.mem_of_getElem? (i := 40) rfl)) rfl, zin (zt1 (List.mem_of_getElem? (i := 14) (by decide +kernel))) rfl, ⟨by decide +kernel, by decide +kernel, by decide +kernel⟩, by decide +kernel⟩
theorem viX12_text : zVir mX12_text 12 := ⟨zin (zt7 (List.mem_of_getElem? (i := 38) (by decide +kernel))) rfl, zin (zt7 (List.mem_of_getElem? (i := 39) (by decide +kernel))) rfl, _, _, rfl⟩
theorem imX12_text : Cond.instanceMethod yX12_text ∈ zTB := zin (zt7 (List.mem_of_getElem? (i := 38) (by decide +kernel))) rfl
abbrev mX12_put : zM := (yX12_put, cX12_put, 5, some .int, 2, 42, 0, 0)
theorem kcX12_put : zCal mX12_put 3 := ⟨zin (zt7 (List.mem_of_getElem? (i := 47) rfl)) rfl, zin (zt1 (List.mem_of_getElem? (i := 14) (by decide +kernel))) rfl, ⟨by decide +kernel, by decide +kernel, by decide +kernel⟩, by decide +kernel⟩
theorem viX12_put : zVir mX12_put 12 := ⟨zin (zt7 (List.mem_of_getElem? (i := 45) (by decide +kernel))) rfl, zin (zt7 (List.mem_of_getElem? (i := 46) (by decide +kernel))) rfl, _, _, rfl⟩
theorem imX12_put : Cond.instanceMethod yX12_put ∈ zTB := zin (zt7 (List.mem_of_getElem? (i := 45) (by decide +kernel))) rfl
abbrev mX12_byteAt : zM := (yX12_byteAt, cX12_byteAt, 3, some .int, 0, 0, 0, 0)
theorem kcX12_byteAt : zCal mX12_byteAt 2 := ⟨zin (zt7 (List.mem_of_getElem? (i := 59) rfl)) rfl, zin (zt1 (List.mem_of_getElem? (i := 14) (by decide +kernel))) rfl, ⟨by decide +kernel, by decide +kernel, by decide +kernel⟩, by decide +kernel⟩
theorem viX12_byteAt : zVir mX12_byteAt 12 := ⟨zin (zt7 (List.mem_of_getElem? (i := 58) (by decide +kernel))) rfl, zin (zt0 (List.mem_of_getElem? (i := 34) (by decide +kernel))) rfl, _, _, rfl⟩
theorem imX12_byteAt : Cond.instanceMethod yX12_byteAt ∈ zTB := zin (zt7 (List.mem_of_getElem? (i := 58) (by decide +kernel))) rfl
abbrev mX12_figure : zM := (yX12_figure, cX12_figure, 4, some .boolean, 1, 22, 0, 0)
theorem kcX12_figure : zCal mX12_figure 2 := ⟨zin (zt7 (List.mem_of_getElem? (i := 75) rfl)) rfl, zin (zt1 (List.mem_of_getElem? (i := 14) (by decide +kernel))) rfl, ⟨by decide +kernel, by decide +kernel, by decide +kernel⟩, by decide +kernel⟩
theorem viX12_figure : zVir mX12_figure 12 := ⟨zin (zt7 (List.mem_of_getElem? (i := 74) (by decide +kernel))) rfl, zin (zt0 (List.mem_of_getElem? (i := 38) (by decide +kernel))) rfl, _, _, rfl⟩
theorem imX12_figure : Cond.instanceMethod yX12_figure ∈ zTB := zin (zt7 (List.mem_of_getElem? (i := 74) (by decide +kernel))) rfl
abbrev mX12_isFigure : zM := (yX12_isFigure, cX12_isFigure, 2, some .boolean, 1, 22, 0, 0)
theorem kcX12_isFigure : zCal mX12_isFigure 1 := ⟨zin (zt7 (List.mem_of_getElem? (i := 67) rfl)) rfl, zin (zt1 (List.mem_of_getElem? (i := 14) (by decide +kernel))) rfl, ⟨by decide +kernel, by decide +kernel, by decide +kernel⟩, by decide +kernel⟩
theorem viX12_isFigure : zVir mX12_isFigure 12 := ⟨zin (zt7 (List.mem_of_getElem? (i := 66) (by decide +kernel))) rfl, zin (zt0 (List.mem_of_getElem? (i := 36) (by decide +kernel))) rfl, _, _, rfl⟩
theorem imX12_isFigure : Cond.instanceMethod yX12_isFigure ∈ zTB := zin (zt7 (List.mem_of_getElem? (i := 66) (by decide +kernel))) rfl
abbrev mX12_readsHand : zM := (yX12_readsHand, cX12_readsHand, 4, some .boolean, 2, 43, 0, 0)
theorem kcX12_readsHand : zCal mX12_readsHand 1 := ⟨zin (zt7 (List.mem_of_getElem? (i := 63) rfl)) rfl, zin (zt1 (List.mem_of_getElem? (i := 14) (by decide +kernel))) rfl, ⟨by decide +kernel, by decide +kernel, by decide +kernel⟩, by decide +kernel⟩
theorem viX12_readsHand : zVir mX12_readsHand 12 := ⟨zin (zt7 (List.mem_of_getElem? (i := 62) (by decide +kernel))) rfl, zin (zt0 (List.mem_of_getElem? (i := 35) (by decide +kernel))) rfl, _, _, rfl⟩
theorem imX12_readsHand : Cond.instanceMethod yX12_readsHand ∈ zTB := zin (zt7 (List.mem_of_getElem? (i := 62) (by decide +kernel))) rfl
abbrev mX12_readsFinger : zM := (yX12_readsFinger, cX12_readsFinger, 5, some .boolean, 2, 45, 0, 0)
theorem kcX12_readsFinger : zCal mX12_readsFinger 1 := ⟨zin (zt7 (List.mem_of_getElem? (i := 71) rfl)) rfl, zin (zt1 (List.mem_of_getElem? (i := 14) (by decide +kernel))) rfl, ⟨by decide +kernel, by decide +kernel, by decide +kernel⟩, by decide +kernel⟩
theorem viX12_readsFinger : zVir mX12_readsFinger 12 := ⟨zin (zt7 (List.mem_of_getElem? (i := 70) (by decide +kernel))) rfl, zin (zt0 (List.mem_of_getElem? (i := 37) (by decide +kernel))) rfl, _, _, rfl⟩
theorem imX12_readsFinger : Cond.instanceMethod yX12_readsFinger ∈ zTB := zin (zt7 (List.mem_of_getElem? (i := 70) (by decide +kernel))) rfl
abbrev mX12_faultOf : zM := (yX12_faultOf, cX12_faultOf, 3, some .int, 3, 69, 0, 0)
theorem kcX12_faultOf : zCal mX12_faultOf 1 := ⟨zin (zt7 (List.mem_of_getElem? (i := 55) rfl)) rfl, zin (zt1 (List.mem_of_getElem? (i := 14) (by decide +kernel))) rfl, ⟨by decide +kernel, by decide +kernel, by decide +kernel⟩, by decide +kernel⟩
theorem viX12_faultOf : zVir mX12_faultOf 12 := ⟨zin (zt7 (List.mem_of_getElem? (i := 54) (by decide +kernel))) rfl, zin (zt0 (List.mem_of_getElem? (i := 33) (by decide +kernel))) rfl, _, _, rfl⟩
theorem imX12_faultOf : Cond.instanceMethod yX12_faultOf ∈ zTB := zin (zt7 (List.mem_of_getElem? (i := 54) (by decide +kernel))) rfl
abbrev mX12_fault : zM := (yX12_fault, cX12_fault, 2, some .int, 4, 91, 0, 0)
theorem kcX12_fault : zCal mX12_fault 1 := ⟨zin (zt7 (List.mem_of_getElem? (i := 51) rfl)) rfl, zin (zt1 (List.mem_of_getElem? (i := 14) (by decide +kernel))) rfl, ⟨by decide +kernel, by decide +kernel, by decide +kernel⟩, by decide +kernel⟩
theorem viX12_fault : zVir mX12_fault 12 := ⟨zin (zt7 (List.mem_of_getElem? (i := 49) (by decide +kernel))) rfl, zin (zt7 (List.mem_of_getElem? (i := 50) (by decide +kernel))) rfl, _, _, rfl⟩
theorem imX12_fault : Cond.instanceMethod yX12_fault ∈ zTB := zin (zt7 (List.mem_of_getElem? (i := 49) (by decide +kernel))) rfl
abbrev mX12_hands : zM := (yX12_hands, cX12_hands, 3, some .int, 4, 91, 0, 0)
theorem kcX12_hands : zCal mX12_hands 1 := ⟨zin (zt7 (List.mem_of_getElem? (i := 79) rfl)) rfl, zin (zt1 (List.mem_of_getElem? (i := 14) (by decide +kernel))) rfl, ⟨by decide +kernel, by decide +kernel, by decide +kernel⟩, by decide +kernel⟩
theorem viX12_hands : zVir mX12_hands 12 := ⟨zin (zt7 (List.mem_of_getElem? (i := 77) (by decide +kernel))) rfl, zin (zt7 (List.mem_of_getElem? (i := 78) (by decide +kernel))) rfl, _, _, rfl⟩
theorem imX12_hands : Cond.instanceMethod yX12_hands ∈ zTB := zin (zt7 (List.mem_of_getElem? (i := 77) (by decide +kernel))) rfl
abbrev mX12_finger : zM := (yX12_finger, cX12_finger, 3, some .int, 1, 22, 0, 0)
theorem kcX12_finger : zCal mX12_finger 2 := ⟨zin (zt7 (List.mem_of_getElem? (i := 83) rfl)) rfl, zin (zt1 (List.mem_of_getElem? (i := 14) (by decide +kernel))) rfl, ⟨by decide +kernel, by decide +kernel, by decide +kernel⟩, by decide +kernel⟩
theorem viX12_finger : zVir mX12_finger 12 := ⟨zin (zt7 (List.mem_of_getElem? (i := 81) (by decide +kernel))) rfl, zin (zt7 (List.mem_of_getElem? (i := 82) (by decide +kernel))) rfl, _, _, rfl⟩
theorem imX12_finger : Cond.instanceMethod yX12_finger ∈ zTB := zin (zt7 (List.mem_of_getElem? (i := 81) (by decide +kernel))) rfl
abbrev mX12_isJoint : zM := (yX12_isJoint, cX12_isJoint, 2, some .boolean, 1, 22, 0, 0)
theorem kcX12_isJoint : zCal mX12_isJoint 1 := ⟨zin (zt7 (List.mem_of_getElem? (i := 91) rfl)) rfl, zin (zt1 (List.mem_of_getElem? (i := 14) (by decide +kernel))) rfl, ⟨by decide +kernel, by decide +kernel, by decide +kernel⟩, by decide +kernel⟩
theorem viX12_isJoint : zVir mX12_isJoint 12 := ⟨zin (zt7 (List.mem_of_getElem? (i := 90) (by decide +kernel))) rfl, zin (zt0 (List.mem_of_getElem? (i := 39) (by decide +kernel))) rfl, _, _, rfl⟩
theorem imX12_isJoint : Cond.instanceMethod yX12_isJoint ∈ zTB := zin (zt7 (List.mem_of_getElem? (i := 90) (by decide +kernel))) rfl
abbrev mX12_joint : zM := (yX12_joint, cX12_joint, 3, some .int, 2, 43, 0, 0)
theorem kcX12_joint : zCal mX12_joint 2 := ⟨zin (zt7 (List.mem_of_getElem? (i := 87) rfl)) rfl, zin (zt1 (List.mem_of_getElem? (i := 14) (by decide +kernel))) rfl, ⟨by decide +kernel, by decide +kernel, by decide +kernel⟩, by decide +kernel⟩
theorem viX12_joint : zVir mX12_joint 12 := ⟨zin (zt7 (List.mem_of_getElem? (i := 85) (by decide +kernel))) rfl, zin (zt7 (List.mem_of_getElem? (i := 86) (by decide +kernel))) rfl, _, _, rfl⟩
theorem imX12_joint : Cond.instanceMethod yX12_joint ∈ zTB := zin (zt7 (List.mem_of_getElem? (i := 85) (by decide +kernel))) rfl
abbrev mX12_least : zM := (yX12_least, cX12_least, 2, some .int, 0, 0, 0, 0)
theorem kcX12_least : zCal mX12_least 1 := ⟨zin (zt7 (List.mem_of_getElem? (i := 115) rfl)) rfl, zin (zt1 (List.mem_of_getElem? (i := 14) (by decide +kernel))) rfl, ⟨by decide +kernel, by decide +kernel, by decide +kernel⟩, by decide +kernel⟩
theorem viX12_least : zVir mX12_least 12 := ⟨zin (zt7 (List.mem_of_getElem? (i := 114) (by decide +kernel))) rfl, zin (zt0 (List.mem_of_getElem? (i := 42) (by decide +kernel))) rfl, _, _, rfl⟩
theorem imX12_least : Cond.instanceMethod yX12_least ∈ zTB := zin (zt7 (List.mem_of_getElem? (i := 114) (by decide +kernel))) rfl
abbrev mX12_most : zM := (yX12_most, cX12_most, 2, some .int, 0, 0, 0, 0)
theorem kcX12_most : zCal mX12_most 1 := ⟨zin (zt7 (List.mem_of_getElem? (i := 119) rfl)) rfl, zin (zt1 (List.mem_of_getElem? (i := 14) (by decide +kernel))) rfl, ⟨by decide +kernel, by decide +kernel, by decide +kernel⟩, by decide +kernel⟩
theorem viX12_most : zVir mX12_most 12 := ⟨zin (zt7 (List.mem_of_getElem? (i := 118) (by decide +kernel))) rfl, zin (zt0 (List.mem_of_getElem? (i := 43) (by decide +kernel))) rfl, _, _, rfl⟩
theorem imX12_most : Cond.instanceMethod yX12_most ∈ zTB := zin (zt7 (List.mem_of_getElem? (i := 118) (by decide +kernel))) rfl
abbrev mX12_strain : zM := (yX12_strain, cX12_strain, 3, some .int, 1, 22, 0, 0)
theorem kcX12_strain : zCal mX12_strain 1 := ⟨zin (zt7 (List.mem_of_getElem? (i := 95) rfl)) rfl, zin (zt1 (List.mem_of_getElem? (i := 14) (by decide +kernel))) rfl, ⟨by decide +kernel, by decide +kernel, by decide +kernel⟩, by decide +kernel⟩
theorem viX12_strain : zVir mX12_strain 12 := ⟨zin (zt7 (List.mem_of_getElem? (i := 93) (by decide +kernel))) rfl, zin (zt7 (List.mem_of_getElem? (i := 94) (by decide +kernel))) rfl, _, _, rfl⟩
theorem imX12_strain : Cond.instanceMethod yX12_strain ∈ zTB := zin (zt7 (List.mem_of_getElem? (i := 93) (by decide +kernel))) rfl
abbrev mX12_lampNow : zM := (yX12_lampNow, cX12_lampNow, 1, some .int, 0, 0, 0, 0)
theorem kcX12_lampNow : zCal mX12_lampNow 0 := ⟨zin (zt7 (List.mem_of_getElem? (i := 103) rfl)) rfl, zin (zt1 (List.mem_of_getElem? (i := 14) (by decide +kernel))) rfl, ⟨by decide +kernel, by decide +kernel, by decide +kernel⟩, by decide +kernel⟩
theorem viX12_lampNow : zVir mX12_lampNow 12 := ⟨zin (zt7 (List.mem_of_getElem? (i := 102) (by decide +kernel))) rfl, zin (zt0 (List.mem_of_getElem? (i := 40) (by decide +kernel))) rfl, _, _, rfl⟩
theorem imX12_lampNow : Cond.instanceMethod yX12_lampNow ∈ zTB := zin (zt7 (List.mem_of_getElem? (i := 102) (by decide +kernel))) rfl
abbrev mX12_lamp : zM := (yX12_lamp, cX12_lamp, 5, some .int, 1, 23, 0, 0)
theorem kcX12_lamp : zCal mX12_lamp 3 := ⟨zin (zt7 (List.mem_of_getElem? (i := 99) rfl)) rfl, zin (zt1 (List.mem_of_getElem? (i := 14) (by decide +kernel))) rfl, ⟨by decide +kernel, by decide +kernel, by decide +kernel⟩, by decide +kernel⟩
theorem viX12_lamp : zVir mX12_lamp 12 := ⟨zin (zt7 (List.mem_of_getElem? (i := 97) (by decide +kernel))) rfl, zin (zt7 (List.mem_of_getElem? (i := 98) (by decide +kernel))) rfl, _, _, rfl⟩
theorem imX12_lamp : Cond.instanceMethod yX12_lamp ∈ zTB := zin (zt7 (List.mem_of_getElem? (i := 97) (by decide +kernel))) rfl
abbrev mX12_layLamp : zM := (yX12_layLamp, cX12_layLamp, 4, none, 0, 0, 0, 0)
theorem kcX12_layLamp : zCal mX12_layLamp 3 := ⟨zin (zt7 (List.mem_of_getElem? (i := 107) rfl)) rfl, zin (zt1 (List.mem_of_getElem? (i := 14) (by decide +kernel))) rfl, ⟨by decide +kernel, by decide +kernel, by decide +kernel⟩, by decide +kernel⟩
theorem viX12_layLamp : zVir mX12_layLamp 12 := ⟨zin (zt7 (List.mem_of_getElem? (i := 106) (by decide +kernel))) rfl, zin (zt0 (List.mem_of_getElem? (i := 41) (by decide +kernel))) rfl, _, _, rfl⟩
theorem imX12_layLamp : Cond.instanceMethod yX12_layLamp ∈ zTB := zin (zt7 (List.mem_of_getElem? (i := 106) (by decide +kernel))) rfl
abbrev mX12_wayX : zM := (yX12_wayX, cX12_wayX, 1, some .int, 0, 0, 0, 0)
theorem kcX12_wayX : zCal mX12_wayX 1 := ⟨zin (zt7 (List.mem_of_getElem? (i := 138) rfl)) rfl, zin (zt1 (List.mem_of_getElem? (i := 14) (by decide +kernel))) rfl, ⟨by decide +kernel, by decide +kernel, by decide +kernel⟩, by decide +kernel⟩
theorem smX12_wayX : Cond.static yX12_wayX ∈ zTB := zin (zt7 (List.mem_of_getElem? (i := 137) (by decide +kernel))) rfl
abbrev mX12_wayY : zM := (yX12_wayY, cX12_wayY, 1, some .int, 0, 0, 0, 0)
theorem kcX12_wayY : zCal mX12_wayY 1 := ⟨zin (zt7 (List.mem_of_getElem? (i := 141) rfl)) rfl, zin (zt1 (List.mem_of_getElem? (i := 14) (by decide +kernel))) rfl, ⟨by decide +kernel, by decide +kernel, by decide +kernel⟩, by decide +kernel⟩
theorem smX12_wayY : Cond.static yX12_wayY ∈ zTB := zin (zt7 (List.mem_of_getElem? (i := 140) (by decide +kernel))) rfl
abbrev mX12_point : zM := (yX12_point, cX12_point, 3, none, 0, 0, 0, 0)
theorem kcX12_point : zCal mX12_point 2 := ⟨zin (zt7 (List.mem_of_getElem? (i := 131) rfl)) rfl, zin (zt1 (List.mem_of_getElem? (i := 14) (by decide +kernel))) rfl, ⟨by decide +kernel, by decide +kernel, by decide +kernel⟩, by decide +kernel⟩
theorem viX12_point : zVir mX12_point 12 := ⟨zin (zt7 (List.mem_of_getElem? (i := 130) (by decide +kernel))) rfl, zin (zt0 (List.mem_of_getElem? (i := 46) (by decide +kernel))) rfl, _, _, rfl⟩
theorem imX12_point : Cond.instanceMethod yX12_point ∈ zTB := zin (zt7 (List.mem_of_getElem? (i := 130) (by decide +kernel))) rfl
abbrev mX12_layPoints : zM := (yX12_layPoints, cX12_layPoints, 3, none, 2, 47, 0, 0)
theorem kcX12_layPoints : zCal mX12_layPoints 1 := ⟨zin (zt7 (List.mem_of_getElem? (i := 127) rfl)) rfl, zin (zt1 (List.mem_of_getElem? (i := 14) (by decide +kernel))) rfl, ⟨by decide +kernel, by decide +kernel, by decide +kernel⟩, by decide +kernel⟩
theorem viX12_layPoints : zVir mX12_layPoints 12 := ⟨zin (zt7 (List.mem_of_getElem? (i := 126) (by decide +kernel))) rfl, zin (zt0 (List.mem_of_getElem? (i := 45) (by decide +kernel))) rfl, _, _, rfl⟩
theorem imX12_layPoints : Cond.instanceMethod yX12_layPoints ∈ zTB := zin (zt7 (List.mem_of_getElem? (i := 126) (by decide +kernel))) rfl
abbrev mX12_layFinger : zM := (yX12_layFinger, cX12_layFinger, 6, none, 1, 22, 0, 0)
theorem kcX12_layFinger : zCal mX12_layFinger 1 := ⟨zin (zt7 (List.mem_of_getElem? (i := 135) rfl)) rfl, zin (zt1 (List.mem_of_getElem? (i := 14) (by decide +kernel))) rfl, ⟨by decide +kernel, by decide +kernel, by decide +kernel⟩, by decide +kernel⟩
theorem viX12_layFinger : zVir mX12_layFinger 12 := ⟨zin (zt7 (List.mem_of_getElem? (i := 134) (by decide +kernel))) rfl, zin (zt0 (List.mem_of_getElem? (i := 47) (by decide +kernel))) rfl, _, _, rfl⟩
theorem imX12_layFinger : Cond.instanceMethod yX12_layFinger ∈ zTB := zin (zt7 (List.mem_of_getElem? (i := 134) (by decide +kernel))) rfl
abbrev mX12_isOn : zM := (yX12_isOn, cX12_isOn, 2, some .boolean, 1, 22, 0, 0)
theorem kcX12_isOn : zCal mX12_isOn 2 := ⟨zin (zt7 (List.mem_of_getElem? (i := 152) rfl)) rfl, zin (zt1 (List.mem_of_getElem? (i := 14) (by decide +kernel))) rfl, ⟨by decide +kernel, by decide +kernel, by decide +kernel⟩, by decide +kernel⟩
theorem smX12_isOn : Cond.static yX12_isOn ∈ zTB := zin (zt7 (List.mem_of_getElem? (i := 151) (by decide +kernel))) rfl
abbrev mX12_wrongMany : zM := (yX12_wrongMany, cX12_wrongMany, 5, some .int, 2, 43, 0, 0)
theorem kcX12_wrongMany : zCal mX12_wrongMany 0 := ⟨zin (zt7 (List.mem_of_getElem? (i := 149) rfl)) rfl, zin (zt1 (List.mem_of_getElem? (i := 14) (by decide +kernel))) rfl, ⟨by decide +kernel, by decide +kernel, by decide +kernel⟩, by decide +kernel⟩
theorem viX12_wrongMany : zVir mX12_wrongMany 12 := ⟨zin (zt7 (List.mem_of_getElem? (i := 148) (by decide +kernel))) rfl, zin (zt0 (List.mem_of_getElem? (i := 49) (by decide +kernel))) rfl, _, _, rfl⟩
theorem imX12_wrongMany : Cond.instanceMethod yX12_wrongMany ∈ zTB := zin (zt7 (List.mem_of_getElem? (i := 148) (by decide +kernel))) rfl
abbrev mX12_turned : zM := (yX12_turned, cX12_turned, 5, some .int, 0, 0, 0, 0)
theorem kcX12_turned : zCal mX12_turned 1 := ⟨zin (zt7 (List.mem_of_getElem? (i := 156) rfl)) rfl, zin (zt1 (List.mem_of_getElem? (i := 14) (by decide +kernel))) rfl, ⟨by decide +kernel, by decide +kernel, by decide +kernel⟩, by decide +kernel⟩
theorem viX12_turned : zVir mX12_turned 12 := ⟨zin (zt7 (List.mem_of_getElem? (i := 155) (by decide +kernel))) rfl, zin (zt0 (List.mem_of_getElem? (i := 50) (by decide +kernel))) rfl, _, _, rfl⟩
theorem imX12_turned : Cond.instanceMethod yX12_turned ∈ zTB := zin (zt7 (List.mem_of_getElem? (i := 155) (by decide +kernel))) rfl
abbrev mX12_kindNow : zM := (yX12_kindNow, cX12_kindNow, 2, some .int, 3, 67, 0, 0)
theorem kcX12_kindNow : zCal mX12_kindNow 1 := ⟨zin (zt7 (List.mem_of_getElem? (i := 145) rfl)) rfl, zin (zt1 (List.mem_of_getElem? (i := 14) (by decide +kernel))) rfl, ⟨by decide +kernel, by decide +kernel, by decide +kernel⟩, by decide +kernel⟩
theorem viX12_kindNow : zVir mX12_kindNow 12 := ⟨zin (zt7 (List.mem_of_getElem? (i := 144) (by decide +kernel))) rfl, zin (zt0 (List.mem_of_getElem? (i := 48) (by decide +kernel))) rfl, _, _, rfl⟩
theorem imX12_kindNow : Cond.instanceMethod yX12_kindNow ∈ zTB := zin (zt7 (List.mem_of_getElem? (i := 144) (by decide +kernel))) rfl
abbrev mX12_turnsMany : zM := (yX12_turnsMany, cX12_turnsMany, 3, some .int, 1, 21, 0, 0)
theorem kcX12_turnsMany : zCal mX12_turnsMany 0 := ⟨zin (zt8 (List.mem_of_getElem? (i := 37) rfl)) rfl, zin (zt1 (List.mem_of_getElem? (i := 14) (by decide +kernel))) rfl, ⟨by decide +kernel, by decide +kernel, by decide +kernel⟩, by decide +kernel⟩
theorem viX12_turnsMany : zVir mX12_turnsMany 12 := ⟨zin (zt8 (List.mem_of_getElem? (i := 36) (by decide +kernel))) rfl, zin (zt0 (List.mem_of_getElem? (i := 68) (by decide +kernel))) rfl, _, _, rfl⟩
theorem imX12_turnsMany : Cond.instanceMethod yX12_turnsMany ∈ zTB := zin (zt8 (List.mem_of_getElem? (i := 36) (by decide +kernel))) rfl
abbrev mX12_layTurns : zM := (yX12_layTurns, cX12_layTurns, 5, none, 1, 21, 0, 0)
theorem kcX12_layTurns : zCal mX12_layTurns 1 := ⟨zin (zt8 (List.mem_of_getElem? (i := 41) rfl)) rfl, zin (zt1 (List.mem_of_getElem? (i := 14) (by decide +kernel))) rfl, ⟨by decide +kernel, by decide +kernel, by decide +kernel⟩, by decide +kernel⟩
theorem viX12_layTurns : zVir mX12_layTurns 12 := ⟨zin (zt8 (List.mem_of_getElem? (i := 40) (by decide +kernel))) rfl, zin (zt0 (List.mem_of_getElem? (i := 69) (by decide +kernel))) rfl, _, _, rfl⟩
theorem imX12_layTurns : Cond.instanceMethod yX12_layTurns ∈ zTB := zin (zt8 (List.mem_of_getElem? (i := 40) (by decide +kernel))) rfl
abbrev mX12_codeNow : zM := (yX12_codeNow, cX12_codeNow, 3, some .int, 1, 21, 0, 0)
theorem kcX12_codeNow : zCal mX12_codeNow 0 := ⟨zin (zt8 (List.mem_of_getElem? (i := 93) rfl)) rfl, zin (zt1 (List.mem_of_getElem? (i := 14) (by decide +kernel))) rfl, ⟨by decide +kernel, by decide +kernel, by decide +kernel⟩, by decide +kernel⟩
theorem viX12_codeNow : zVir mX12_codeNow 12 := ⟨zin (zt8 (List.mem_of_getElem? (i := 92) (by decide +kernel))) rfl, zin (zt0 (List.mem_of_getElem? (i := 78) (by decide +kernel))) rfl, _, _, rfl⟩
theorem imX12_codeNow : Cond.instanceMethod yX12_codeNow ∈ zTB := zin (zt8 (List.mem_of_getElem? (i := 92) (by decide +kernel))) rfl
abbrev mX12_isHeld : zM := (yX12_isHeld, cX12_isHeld, 3, some .boolean, 4, 88, 0, 0)
theorem kcX12_isHeld : zCal mX12_isHeld 2 := ⟨zin (zt8 (List.mem_of_getElem? (i := 57) rfl)) rfl, zin (zt1 (List.mem_of_getElem? (i := 14) (by decide +kernel))) rfl, ⟨by decide +kernel, by decide +kernel, by decide +kernel⟩, by decide +kernel⟩
theorem viX12_isHeld : zVir mX12_isHeld 12 := ⟨zin (zt8 (List.mem_of_getElem? (i := 56) (by decide +kernel))) rfl, zin (zt0 (List.mem_of_getElem? (i := 72) (by decide +kernel))) rfl, _, _, rfl⟩
theorem imX12_isHeld : Cond.instanceMethod yX12_isHeld ∈ zTB := zin (zt8 (List.mem_of_getElem? (i := 56) (by decide +kernel))) rfl
abbrev mX12_darken : zM := (yX12_darken, cX12_darken, 3, none, 2, 43, 0, 0)
theorem kcX12_darken : zCal mX12_darken 2 := ⟨zin (zt7 (List.mem_of_getElem? (i := 222) rfl)) rfl, zin (zt1 (List.mem_of_getElem? (i := 14) (by decide +kernel))) rfl, ⟨by decide +kernel, by decide +kernel, by decide +kernel⟩, by decide +kernel⟩
theorem viX12_darken : zVir mX12_darken 12 := ⟨zin (zt7 (List.mem_of_getElem? (i := 221) (by decide +kernel))) rfl, zin (zt0 (List.mem_of_getElem? (i := 59) (by decide +kernel))) rfl, _, _, rfl⟩
theorem imX12_darken : Cond.instanceMethod yX12_darken ∈ zTB := zin (zt7 (List.mem_of_getElem? (i := 221) (by decide +kernel))) rfl
abbrev mX12_layBright : zM := (yX12_layBright, cX12_layBright, 2, none, 0, 0, 0, 0)
theorem kcX12_layBright : zCal mX12_layBright 0 := ⟨zin (zt7 (List.mem_of_getElem? (i := 218) rfl)) rfl, zin (zt1 (List.mem_of_getElem? (i := 14) (by decide +kernel))) rfl, ⟨by decide +kernel, by decide +kernel, by decide +kernel⟩, by decide +kernel⟩
theorem viX12_layBright : zVir mX12_layBright 12 := ⟨zin (zt7 (List.mem_of_getElem? (i := 217) (by decide +kernel))) rfl, zin (zt0 (List.mem_of_getElem? (i := 58) (by decide +kernel))) rfl, _, _, rfl⟩
theorem imX12_layBright : Cond.instanceMethod yX12_layBright ∈ zTB := zin (zt7 (List.mem_of_getElem? (i := 217) (by decide +kernel))) rfl
abbrev mX12_darkMany : zM := (yX12_darkMany, cX12_darkMany, 3, some .int, 1, 22, 0, 0)
theorem kcX12_darkMany : zCal mX12_darkMany 0 := ⟨zin (zt7 (List.mem_of_getElem? (i := 234) rfl)) rfl, zin (zt1 (List.mem_of_getElem? (i := 14) (by decide +kernel))) rfl, ⟨by decide +kernel, by decide +kernel, by decide +kernel⟩, by decide +kernel⟩
theorem viX12_darkMany : zVir mX12_darkMany 12 := ⟨zin (zt7 (List.mem_of_getElem? (i := 233) (by decide +kernel))) rfl, zin (zt0 (List.mem_of_getElem? (i := 62) (by decide +kernel))) rfl, _, _, rfl⟩
theorem imX12_darkMany : Cond.instanceMethod yX12_darkMany ∈ zTB := zin (zt7 (List.mem_of_getElem? (i := 233) (by decide +kernel))) rfl
abbrev mX12_layShape : zM := (yX12_layShape, cX12_layShape, 2, none, 3, 65, 0, 0)
theorem kcX12_layShape : zCal mX12_layShape 0 := ⟨zin (zt7 (List.mem_of_getElem? (i := 214) rfl)) rfl, zin (zt1 (List.mem_of_getElem? (i := 14) (by decide +kernel))) rfl, ⟨by decide +kernel, by decide +kernel, by decide +kernel⟩, by decide +kernel⟩
theorem viX12_layShape : zVir mX12_layShape 12 := ⟨zin (zt7 (List.mem_of_getElem? (i := 213) (by decide +kernel))) rfl, zin (zt0 (List.mem_of_getElem? (i := 57) (by decide +kernel))) rfl, _, _, rfl⟩
theorem imX12_layShape : Cond.instanceMethod yX12_layShape ∈ zTB := zin (zt7 (List.mem_of_getElem? (i := 213) (by decide +kernel))) rfl
abbrev mX12_layThrown : zM := (yX12_layThrown, cX12_layThrown, 6, none, 3, 65, 0, 0)
theorem kcX12_layThrown : zCal mX12_layThrown 0 := ⟨zin (zt8 (List.mem_of_getElem? (i := 6) rfl)) rfl, zin (zt1 (List.mem_of_getElem? (i := 14) (by decide +kernel))) rfl, ⟨by decide +kernel, by decide +kernel, by decide +kernel⟩, by decide +kernel⟩
theorem viX12_layThrown : zVir mX12_layThrown 12 := ⟨zin (zt8 (List.mem_of_getElem? (i := 5) (by decide +kernel))) rfl, zin (zt0 (List.mem_of_getElem? (i := 64) (by decide +kernel))) rfl, _, _, rfl⟩
theorem imX12_layThrown : Cond.instanceMethod yX12_layThrown ∈ zTB := zin (zt8 (List.mem_of_getElem? (i := 5) (by decide +kernel))) rfl
abbrev mX12_clear : zM := (yX12_clear, cX12_clear, 4, none, 0, 0, 0, 0)
theorem kcX12_clear : zCal mX12_clear 2 := ⟨zin (zt7 (List.mem_of_getElem? (i := 230) rfl)) rfl, zin (zt1 (List.mem_of_getElem? (i := 14) (by decide +kernel))) rfl, ⟨by decide +kernel, by decide +kernel, by decide +kernel⟩, by decide +kernel⟩
theorem viX12_clear : zVir mX12_clear 12 := ⟨zin (zt7 (List.mem_of_getElem? (i := 229) (by decide +kernel))) rfl, zin (zt0 (List.mem_of_getElem? (i := 61) (by decide +kernel))) rfl, _, _, rfl⟩
theorem imX12_clear : Cond.instanceMethod yX12_clear ∈ zTB := zin (zt7 (List.mem_of_getElem? (i := 229) (by decide +kernel))) rfl
abbrev mX12_toRow : zM := (yX12_toRow, cX12_toRow, 3, some .int, 2, 44, 0, 0)
theorem kcX12_toRow : zCal mX12_toRow 1 := ⟨zin (zt7 (List.mem_of_getElem? (i := 226) rfl)) rfl, zin (zt1 (List.mem_of_getElem? (i := 14) (by decide +kernel))) rfl, ⟨by decide +kernel, by decide +kernel, by decide +kernel⟩, by decide +kernel⟩
theorem viX12_toRow : zVir mX12_toRow 12 := ⟨zin (zt7 (List.mem_of_getElem? (i := 225) (by decide +kernel))) rfl, zin (zt0 (List.mem_of_getElem? (i := 60) (by decide +kernel))) rfl, _, _, rfl⟩
theorem imX12_toRow : Cond.instanceMethod yX12_toRow ∈ zTB := zin (zt7 (List.mem_of_getElem? (i := 225) (by decide +kernel))) rfl
abbrev mX12_needShadow : zM := (yX12_needShadow, cX12_needShadow, 4, some .int, 1, 22, 0, 0)
theorem kcX12_needShadow : zCal mX12_needShadow 1 := ⟨zin (zt7 (List.mem_of_getElem? (i := 179) rfl)) rfl, zin (zt1 (List.mem_of_getElem? (i := 14) (by decide +kernel))) rfl, ⟨by decide +kernel, by decide +kernel, by decide +kernel⟩, by decide +kernel⟩
theorem viX12_needShadow : zVir mX12_needShadow 12 := ⟨zin (zt7 (List.mem_of_getElem? (i := 178) (by decide +kernel))) rfl, zin (zt0 (List.mem_of_getElem? (i := 54) (by decide +kernel))) rfl, _, _, rfl⟩
theorem imX12_needShadow : Cond.instanceMethod yX12_needShadow ∈ zTB := zin (zt7 (List.mem_of_getElem? (i := 178) (by decide +kernel))) rfl
abbrev mX12_isPose : zM := (yX12_isPose, cX12_isPose, 2, some .boolean, 1, 22, 0, 0)
theorem kcX12_isPose : zCal mX12_isPose 1 := ⟨zin (zt7 (List.mem_of_getElem? (i := 167) rfl)) rfl, zin (zt1 (List.mem_of_getElem? (i := 14) (by decide +kernel))) rfl, ⟨by decide +kernel, by decide +kernel, by decide +kernel⟩, by decide +kernel⟩
theorem viX12_isPose : zVir mX12_isPose 12 := ⟨zin (zt7 (List.mem_of_getElem? (i := 166) (by decide +kernel))) rfl, zin (zt0 (List.mem_of_getElem? (i := 51) (by decide +kernel))) rfl, _, _, rfl⟩
theorem imX12_isPose : Cond.instanceMethod yX12_isPose ∈ zTB := zin (zt7 (List.mem_of_getElem? (i := 166) (by decide +kernel))) rfl
abbrev mX12_kind : zM := (yX12_kind, cX12_kind, 2, some .int, 0, 0, 0, 0)
theorem kcX12_kind : zCal mX12_kind 1 := ⟨zin (zt7 (List.mem_of_getElem? (i := 175) rfl)) rfl, zin (zt1 (List.mem_of_getElem? (i := 14) (by decide +kernel))) rfl, ⟨by decide +kernel, by decide +kernel, by decide +kernel⟩, by decide +kernel⟩
theorem viX12_kind : zVir mX12_kind 12 := ⟨zin (zt7 (List.mem_of_getElem? (i := 174) (by decide +kernel))) rfl, zin (zt0 (List.mem_of_getElem? (i := 53) (by decide +kernel))) rfl, _, _, rfl⟩
theorem imX12_kind : Cond.instanceMethod yX12_kind ∈ zTB := zin (zt7 (List.mem_of_getElem? (i := 174) (by decide +kernel))) rfl
abbrev mX12_isHeldPose : zM := (yX12_isHeldPose, cX12_isHeldPose, 2, some .boolean, 1, 21, 0, 0)
theorem kcX12_isHeldPose : zCal mX12_isHeldPose 1 := ⟨zin (zt7 (List.mem_of_getElem? (i := 171) rfl)) rfl, zin (zt1 (List.mem_of_getElem? (i := 14) (by decide +kernel))) rfl, ⟨by decide +kernel, by decide +kernel, by decide +kernel⟩, by decide +kernel⟩
theorem viX12_isHeldPose : zVir mX12_isHeldPose 12 := ⟨zin (zt7 (List.mem_of_getElem? (i := 170) (by decide +kernel))) rfl, zin (zt0 (List.mem_of_getElem? (i := 52) (by decide +kernel))) rfl, _, _, rfl⟩
theorem imX12_isHeldPose : Cond.instanceMethod yX12_isHeldPose ∈ zTB := zin (zt7 (List.mem_of_getElem? (i := 170) (by decide +kernel))) rfl
abbrev mX12_layPose : zM := (yX12_layPose, cX12_layPose, 3, none, 3, 69, 0, 0)
theorem kcX12_layPose : zCal mX12_layPose 1 := ⟨zin (zt7 (List.mem_of_getElem? (i := 123) rfl)) rfl, zin (zt1 (List.mem_of_getElem? (i := 14) (by decide +kernel))) rfl, ⟨by decide +kernel, by decide +kernel, by decide +kernel⟩, by decide +kernel⟩
theorem viX12_layPose : zVir mX12_layPose 12 := ⟨zin (zt7 (List.mem_of_getElem? (i := 122) (by decide +kernel))) rfl, zin (zt0 (List.mem_of_getElem? (i := 44) (by decide +kernel))) rfl, _, _, rfl⟩
theorem imX12_layPose : Cond.instanceMethod yX12_layPose ∈ zTB := zin (zt7 (List.mem_of_getElem? (i := 122) (by decide +kernel))) rfl
abbrev mX12_greater : zM := (yX12_greater, cX12_greater, 2, some .int, 0, 0, 0, 0)
theorem kcX12_greater : zCal mX12_greater 2 := ⟨zin (zt7 (List.mem_of_getElem? (i := 159) rfl)) rfl, zin (zt1 (List.mem_of_getElem? (i := 14) (by decide +kernel))) rfl, ⟨by decide +kernel, by decide +kernel, by decide +kernel⟩, by decide +kernel⟩
theorem smX12_greater : Cond.static yX12_greater ∈ zTB := zin (zt7 (List.mem_of_getElem? (i := 158) (by decide +kernel))) rfl
abbrev mX12_pose : zM := (yX12_pose, cX12_pose, 9, some .int, 4, 91, 0, 0)
theorem kcX12_pose : zCal mX12_pose 2 := ⟨zin (zt7 (List.mem_of_getElem? (i := 111) rfl)) rfl, zin (zt1 (List.mem_of_getElem? (i := 14) (by decide +kernel))) rfl, ⟨by decide +kernel, by decide +kernel, by decide +kernel⟩, by decide +kernel⟩
theorem viX12_pose : zVir mX12_pose 12 := ⟨zin (zt7 (List.mem_of_getElem? (i := 109) (by decide +kernel))) rfl, zin (zt7 (List.mem_of_getElem? (i := 110) (by decide +kernel))) rfl, _, _, rfl⟩
theorem imX12_pose : Cond.instanceMethod yX12_pose ∈ zTB := zin (zt7 (List.mem_of_getElem? (i := 109) (by decide +kernel))) rfl
abbrev mX12_cardMany : zM := (yX12_cardMany, cX12_cardMany, 4, some .int, 1, 22, 0, 0)
theorem kcX12_cardMany : zCal mX12_cardMany 1 := ⟨zin (zt7 (List.mem_of_getElem? (i := 183) rfl)) rfl, zin (zt1 (List.mem_of_getElem? (i := 14) (by decide +kernel))) rfl, ⟨by decide +kernel, by decide +kernel, by decide +kernel⟩, by decide +kernel⟩
theorem viX12_cardMany : zVir mX12_cardMany 12 := ⟨zin (zt7 (List.mem_of_getElem? (i := 182) (by decide +kernel))) rfl, zin (zt0 (List.mem_of_getElem? (i := 55) (by decide +kernel))) rfl, _, _, rfl⟩
theorem imX12_cardMany : Cond.instanceMethod yX12_cardMany ∈ zTB := zin (zt7 (List.mem_of_getElem? (i := 182) (by decide +kernel))) rfl
abbrev mX12_help : zM := (yX12_help, cX12_help, 5, some .int, 2, 45, 0, 0)
theorem kcX12_help : zCal mX12_help 2 := ⟨zin (zt7 (List.mem_of_getElem? (i := 163) rfl)) rfl, zin (zt1 (List.mem_of_getElem? (i := 14) (by decide +kernel))) rfl, ⟨by decide +kernel, by decide +kernel, by decide +kernel⟩, by decide +kernel⟩
theorem viX12_help : zVir mX12_help 12 := ⟨zin (zt7 (List.mem_of_getElem? (i := 161) (by decide +kernel))) rfl, zin (zt7 (List.mem_of_getElem? (i := 162) (by decide +kernel))) rfl, _, _, rfl⟩
theorem imX12_help : Cond.instanceMethod yX12_help ∈ zTB := zin (zt7 (List.mem_of_getElem? (i := 161) (by decide +kernel))) rfl
abbrev mX12_back : zM := (yX12_back, cX12_back, 6, some .int, 1, 22, 0, 0)
theorem kcX12_back : zCal mX12_back 1 := ⟨zin (zt7 (List.mem_of_getElem? (i := 190) rfl)) rfl, zin (zt1 (List.mem_of_getElem? (i := 14) (by decide +kernel))) rfl, ⟨by decide +kernel, by decide +kernel, by decide +kernel⟩, by decide +kernel⟩
theorem viX12_back : zVir mX12_back 12 := ⟨zin (zt7 (List.mem_of_getElem? (i := 188) (by decide +kernel))) rfl, zin (zt7 (List.mem_of_getElem? (i := 189) (by decide +kernel))) rfl, _, _, rfl⟩
theorem imX12_back : Cond.instanceMethod yX12_back ∈ zTB := zin (zt7 (List.mem_of_getElem? (i := 188) (by decide +kernel))) rfl
abbrev mX12_aboutPose : zM := (yX12_aboutPose, cX12_aboutPose, 3, some .int, 4, 91, 0, 0)
theorem kcX12_aboutPose : zCal mX12_aboutPose 2 := ⟨zin (zt7 (List.mem_of_getElem? (i := 198) rfl)) rfl, zin (zt1 (List.mem_of_getElem? (i := 14) (by decide +kernel))) rfl, ⟨by decide +kernel, by decide +kernel, by decide +kernel⟩, by decide +kernel⟩
theorem viX12_aboutPose : zVir mX12_aboutPose 12 := ⟨zin (zt7 (List.mem_of_getElem? (i := 197) (by decide +kernel))) rfl, zin (zt0 (List.mem_of_getElem? (i := 56) (by decide +kernel))) rfl, _, _, rfl⟩
theorem imX12_aboutPose : Cond.instanceMethod yX12_aboutPose ∈ zTB := zin (zt7 (List.mem_of_getElem? (i := 197) (by decide +kernel))) rfl
abbrev mX12_about : zM := (yX12_about, cX12_about, 3, some .int, 5, 113, 0, 0)
theorem kcX12_about : zCal mX12_about 2 := ⟨zin (zt7 (List.mem_of_getElem? (i := 194) rfl)) rfl, zin (zt1 (List.mem_of_getElem? (i := 14) (by decide +kernel))) rfl, ⟨by decide +kernel, by decide +kernel, by decide +kernel⟩, by decide +kernel⟩
theorem viX12_about : zVir mX12_about 12 := ⟨zin (zt7 (List.mem_of_getElem? (i := 192) (by decide +kernel))) rfl, zin (zt7 (List.mem_of_getElem? (i := 193) (by decide +kernel))) rfl, _, _, rfl⟩
theorem imX12_about : Cond.instanceMethod yX12_about ∈ zTB := zin (zt7 (List.mem_of_getElem? (i := 192) (by decide +kernel))) rfl
abbrev mX12_turn : zM := (yX12_turn, cX12_turn, 3, some .int, 2, 43, 0, 0)
theorem kcX12_turn : zCal mX12_turn 2 := ⟨zin (zt7 (List.mem_of_getElem? (i := 202) rfl)) rfl, zin (zt1 (List.mem_of_getElem? (i := 14) (by decide +kernel))) rfl, ⟨by decide +kernel, by decide +kernel, by decide +kernel⟩, by decide +kernel⟩
theorem viX12_turn : zVir mX12_turn 12 := ⟨zin (zt7 (List.mem_of_getElem? (i := 200) (by decide +kernel))) rfl, zin (zt7 (List.mem_of_getElem? (i := 201) (by decide +kernel))) rfl, _, _, rfl⟩
theorem imX12_turn : Cond.instanceMethod yX12_turn ∈ zTB := zin (zt7 (List.mem_of_getElem? (i := 200) (by decide +kernel))) rfl
abbrev mX12_mark : zM := (yX12_mark, cX12_mark, 3, some .int, 4, 91, 0, 0)
theorem kcX12_mark : zCal mX12_mark 2 := ⟨zin (zt7 (List.mem_of_getElem? (i := 206) rfl)) rfl, zin (zt1 (List.mem_of_getElem? (i := 14) (by decide +kernel))) rfl, ⟨by decide +kernel, by decide +kernel, by decide +kernel⟩, by decide +kernel⟩
theorem viX12_mark : zVir mX12_mark 12 := ⟨zin (zt7 (List.mem_of_getElem? (i := 204) (by decide +kernel))) rfl, zin (zt7 (List.mem_of_getElem? (i := 205) (by decide +kernel))) rfl, _, _, rfl⟩
theorem imX12_mark : Cond.instanceMethod yX12_mark ∈ zTB := zin (zt7 (List.mem_of_getElem? (i := 204) (by decide +kernel))) rfl
abbrev mX12_shape : zM := (yX12_shape, cX12_shape, 3, some .int, 4, 91, 0, 0)
theorem kcX12_shape : zCal mX12_shape 2 := ⟨zin (zt7 (List.mem_of_getElem? (i := 210) rfl)) rfl, zin (zt1 (List.mem_of_getElem? (i := 14) (by decide +kernel))) rfl, ⟨by decide +kernel, by decide +kernel, by decide +kernel⟩, by decide +kernel⟩
theorem viX12_shape : zVir mX12_shape 12 := ⟨zin (zt7 (List.mem_of_getElem? (i := 208) (by decide +kernel))) rfl, zin (zt7 (List.mem_of_getElem? (i := 209) (by decide +kernel))) rfl, _, _, rfl⟩
theorem imX12_shape : Cond.instanceMethod yX12_shape ∈ zTB := zin (zt7 (List.mem_of_getElem? (i := 208) (by decide +kernel))) rfl
abbrev mX12_throwPose : zM := (yX12_throwPose, cX12_throwPose, 3, none, 4, 91, 0, 0)
theorem kcX12_throwPose : zCal mX12_throwPose 1 := ⟨zin (zt8 (List.mem_of_getElem? (i := 2) rfl)) rfl, zin (zt1 (List.mem_of_getElem? (i := 14) (by decide +kernel))) rfl, ⟨by decide +kernel, by decide +kernel, by decide +kernel⟩, by decide +kernel⟩
theorem viX12_throwPose : zVir mX12_throwPose 12 := ⟨zin (zt8 (List.mem_of_getElem? (i := 1) (by decide +kernel))) rfl, zin (zt0 (List.mem_of_getElem? (i := 63) (by decide +kernel))) rfl, _, _, rfl⟩
theorem imX12_throwPose : Cond.instanceMethod yX12_throwPose ∈ zTB := zin (zt8 (List.mem_of_getElem? (i := 1) (by decide +kernel))) rfl
abbrev mX12_thrown : zM := (yX12_thrown, cX12_thrown, 3, some .int, 5, 113, 0, 0)
theorem kcX12_thrown : zCal mX12_thrown 2 := ⟨zin (zt7 (List.mem_of_getElem? (i := 238) rfl)) rfl, zin (zt1 (List.mem_of_getElem? (i := 14) (by decide +kernel))) rfl, ⟨by decide +kernel, by decide +kernel, by decide +kernel⟩, by decide +kernel⟩
theorem viX12_thrown : zVir mX12_thrown 12 := ⟨zin (zt7 (List.mem_of_getElem? (i := 236) (by decide +kernel))) rfl, zin (zt7 (List.mem_of_getElem? (i := 237) (by decide +kernel))) rfl, _, _, rfl⟩
theorem imX12_thrown : Cond.instanceMethod yX12_thrown ∈ zTB := zin (zt7 (List.mem_of_getElem? (i := 236) (by decide +kernel))) rfl
abbrev mX12_isBeast : zM := (yX12_isBeast, cX12_isBeast, 1, some .boolean, 1, 22, 0, 0)
theorem kcX12_isBeast : zCal mX12_isBeast 1 := ⟨zin (zt8 (List.mem_of_getElem? (i := 13) rfl)) rfl, zin (zt1 (List.mem_of_getElem? (i := 14) (by decide +kernel))) rfl, ⟨by decide +kernel, by decide +kernel, by decide +kernel⟩, by decide +kernel⟩
theorem smX12_isBeast : Cond.static yX12_isBeast ∈ zTB := zin (zt8 (List.mem_of_getElem? (i := 12) (by decide +kernel))) rfl
abbrev mX12_beast : zM := (yX12_beast, cX12_beast, 8, some .int, 2, 42, 0, 0)
theorem kcX12_beast : zCal mX12_beast 4 := ⟨zin (zt8 (List.mem_of_getElem? (i := 10) rfl)) rfl, zin (zt1 (List.mem_of_getElem? (i := 14) (by decide +kernel))) rfl, ⟨by decide +kernel, by decide +kernel, by decide +kernel⟩, by decide +kernel⟩
theorem viX12_beast : zVir mX12_beast 12 := ⟨zin (zt8 (List.mem_of_getElem? (i := 8) (by decide +kernel))) rfl, zin (zt8 (List.mem_of_getElem? (i := 9) (by decide +kernel))) rfl, _, _, rfl⟩
theorem imX12_beast : Cond.instanceMethod yX12_beast ∈ zTB := zin (zt8 (List.mem_of_getElem? (i := 8) (by decide +kernel))) rfl
abbrev mX12_missedBy : zM := (yX12_missedBy, cX12_missedBy, 4, some .int, 1, 22, 0, 0)
theorem kcX12_missedBy : zCal mX12_missedBy 1 := ⟨zin (zt8 (List.mem_of_getElem? (i := 21) rfl)) rfl, zin (zt1 (List.mem_of_getElem? (i := 14) (by decide +kernel))) rfl, ⟨by decide +kernel, by decide +kernel, by decide +kernel⟩, by decide +kernel⟩
theorem viX12_missedBy : zVir mX12_missedBy 12 := ⟨zin (zt8 (List.mem_of_getElem? (i := 20) (by decide +kernel))) rfl, zin (zt0 (List.mem_of_getElem? (i := 65) (by decide +kernel))) rfl, _, _, rfl⟩
theorem imX12_missedBy : Cond.instanceMethod yX12_missedBy ∈ zTB := zin (zt8 (List.mem_of_getElem? (i := 20) (by decide +kernel))) rfl
abbrev mX12_overBy : zM := (yX12_overBy, cX12_overBy, 4, some .int, 1, 22, 0, 0)
theorem kcX12_overBy : zCal mX12_overBy 1 := ⟨zin (zt8 (List.mem_of_getElem? (i := 29) rfl)) rfl, zin (zt1 (List.mem_of_getElem? (i := 14) (by decide +kernel))) rfl, ⟨by decide +kernel, by decide +kernel, by decide +kernel⟩, by decide +kernel⟩
theorem viX12_overBy : zVir mX12_overBy 12 := ⟨zin (zt8 (List.mem_of_getElem? (i := 28) (by decide +kernel))) rfl, zin (zt0 (List.mem_of_getElem? (i := 67) (by decide +kernel))) rfl, _, _, rfl⟩
theorem imX12_overBy : Cond.instanceMethod yX12_overBy ∈ zTB := zin (zt8 (List.mem_of_getElem? (i := 28) (by decide +kernel))) rfl
abbrev mX12_offBy : zM := (yX12_offBy, cX12_offBy, 2, some .int, 2, 45, 0, 0)
theorem kcX12_offBy : zCal mX12_offBy 1 := ⟨zin (zt8 (List.mem_of_getElem? (i := 25) rfl)) rfl, zin (zt1 (List.mem_of_getElem? (i := 14) (by decide +kernel))) rfl, ⟨by decide +kernel, by decide +kernel, by decide +kernel⟩, by decide +kernel⟩
theorem viX12_offBy : zVir mX12_offBy 12 := ⟨zin (zt8 (List.mem_of_getElem? (i := 24) (by decide +kernel))) rfl, zin (zt0 (List.mem_of_getElem? (i := 66) (by decide +kernel))) rfl, _, _, rfl⟩
theorem imX12_offBy : Cond.instanceMethod yX12_offBy ∈ zTB := zin (zt8 (List.mem_of_getElem? (i := 24) (by decide +kernel))) rfl
abbrev mX12_off : zM := (yX12_off, cX12_off, 3, some .int, 5, 113, 0, 0)
theorem kcX12_off : zCal mX12_off 2 := ⟨zin (zt8 (List.mem_of_getElem? (i := 17) rfl)) rfl, zin (zt1 (List.mem_of_getElem? (i := 14) (by decide +kernel))) rfl, ⟨by decide +kernel, by decide +kernel, by decide +kernel⟩, by decide +kernel⟩
theorem viX12_off : zVir mX12_off 12 := ⟨zin (zt8 (List.mem_of_getElem? (i := 15) (by decide +kernel))) rfl, zin (zt8 (List.mem_of_getElem? (i := 16) (by decide +kernel))) rfl, _, _, rfl⟩
theorem imX12_off : Cond.instanceMethod yX12_off ∈ zTB := zin (zt8 (List.mem_of_getElem? (i := 15) (by decide +kernel))) rfl
abbrev mX12_many : zM := (yX12_many, cX12_many, 6, some .int, 4, 88, 0, 0)
theorem kcX12_many : zCal mX12_many 0 := ⟨zin (zt8 (List.mem_of_getElem? (i := 33) rfl)) rfl, zin (zt1 (List.mem_of_getElem? (i := 14) (by decide +kernel))) rfl, ⟨by decide +kernel, by decide +kernel, by decide +kernel⟩, by decide +kernel⟩
theorem viX12_many : zVir mX12_many 12 := ⟨zin (zt8 (List.mem_of_getElem? (i := 31) (by decide +kernel))) rfl, zin (zt8 (List.mem_of_getElem? (i := 32) (by decide +kernel))) rfl, _, _, rfl⟩
theorem imX12_many : Cond.instanceMethod yX12_many ∈ zTB := zin (zt8 (List.mem_of_getElem? (i := 31) (by decide +kernel))) rfl
abbrev mX12_leastOff : zM := (yX12_leastOff, cX12_leastOff, 8, some .int, 5, 110, 0, 0)
theorem kcX12_leastOff : zCal mX12_leastOff 3 := ⟨zin (zt8 (List.mem_of_getElem? (i := 53) rfl)) rfl, zin (zt1 (List.mem_of_getElem? (i := 14) (by decide +kernel))) rfl, ⟨by decide +kernel, by decide +kernel, by decide +kernel⟩, by decide +kernel⟩
theorem viX12_leastOff : zVir mX12_leastOff 12 := ⟨zin (zt8 (List.mem_of_getElem? (i := 52) (by decide +kernel))) rfl, zin (zt0 (List.mem_of_getElem? (i := 71) (by decide +kernel))) rfl, _, _, rfl⟩
theorem imX12_leastOff : Cond.instanceMethod yX12_leastOff ∈ zTB := zin (zt8 (List.mem_of_getElem? (i := 52) (by decide +kernel))) rfl
abbrev mX12_needBeast : zM := (yX12_needBeast, cX12_needBeast, 3, some .int, 2, 43, 0, 0)
theorem kcX12_needBeast : zCal mX12_needBeast 2 := ⟨zin (zt8 (List.mem_of_getElem? (i := 49) rfl)) rfl, zin (zt1 (List.mem_of_getElem? (i := 14) (by decide +kernel))) rfl, ⟨by decide +kernel, by decide +kernel, by decide +kernel⟩, by decide +kernel⟩
theorem viX12_needBeast : zVir mX12_needBeast 12 := ⟨zin (zt8 (List.mem_of_getElem? (i := 48) (by decide +kernel))) rfl, zin (zt0 (List.mem_of_getElem? (i := 70) (by decide +kernel))) rfl, _, _, rfl⟩
theorem imX12_needBeast : Cond.instanceMethod yX12_needBeast ∈ zTB := zin (zt8 (List.mem_of_getElem? (i := 48) (by decide +kernel))) rfl
abbrev mX12_nearest : zM := (yX12_nearest, cX12_nearest, 6, some .int, 6, 137, 0, 0)
theorem kcX12_nearest : zCal mX12_nearest 2 := ⟨zin (zt8 (List.mem_of_getElem? (i := 45) rfl)) rfl, zin (zt1 (List.mem_of_getElem? (i := 14) (by decide +kernel))) rfl, ⟨by decide +kernel, by decide +kernel, by decide +kernel⟩, by decide +kernel⟩
theorem viX12_nearest : zVir mX12_nearest 12 := ⟨zin (zt8 (List.mem_of_getElem? (i := 43) (by decide +kernel))) rfl, zin (zt8 (List.mem_of_getElem? (i := 44) (by decide +kernel))) rfl, _, _, rfl⟩
theorem imX12_nearest : Cond.instanceMethod yX12_nearest ∈ zTB := zin (zt8 (List.mem_of_getElem? (i := 43) (by decide +kernel))) rfl
abbrev mX12_never : zM := (yX12_never, cX12_never, 7, some .int, 5, 110, 0, 0)
theorem kcX12_never : zCal mX12_never 2 := ⟨zin (zt8 (List.mem_of_getElem? (i := 61) rfl)) rfl, zin (zt1 (List.mem_of_getElem? (i := 14) (by decide +kernel))) rfl, ⟨by decide +kernel, by decide +kernel, by decide +kernel⟩, by decide +kernel⟩
theorem viX12_never : zVir mX12_never 12 := ⟨zin (zt8 (List.mem_of_getElem? (i := 59) (by decide +kernel))) rfl, zin (zt8 (List.mem_of_getElem? (i := 60) (by decide +kernel))) rfl, _, _, rfl⟩
theorem imX12_never : Cond.instanceMethod yX12_never ∈ zTB := zin (zt8 (List.mem_of_getElem? (i := 59) (by decide +kernel))) rfl
abbrev mX12_layWanted : zM := (yX12_layWanted, cX12_layWanted, 3, none, 1, 22, 0, 0)
theorem kcX12_layWanted : zCal mX12_layWanted 1 := ⟨zin (zt8 (List.mem_of_getElem? (i := 69) rfl)) rfl, zin (zt1 (List.mem_of_getElem? (i := 14) (by decide +kernel))) rfl, ⟨by decide +kernel, by decide +kernel, by decide +kernel⟩, by decide +kernel⟩
theorem viX12_layWanted : zVir mX12_layWanted 12 := ⟨zin (zt8 (List.mem_of_getElem? (i := 68) (by decide +kernel))) rfl, zin (zt0 (List.mem_of_getElem? (i := 73) (by decide +kernel))) rfl, _, _, rfl⟩
theorem imX12_layWanted : Cond.instanceMethod yX12_layWanted ∈ zTB := zin (zt8 (List.mem_of_getElem? (i := 68) (by decide +kernel))) rfl
abbrev mX12_isWanted : zM := (yX12_isWanted, cX12_isWanted, 3, some .boolean, 0, 0, 0, 0)
theorem kcX12_isWanted : zCal mX12_isWanted 0 := ⟨zin (zt8 (List.mem_of_getElem? (i := 77) rfl)) rfl, zin (zt1 (List.mem_of_getElem? (i := 14) (by decide +kernel))) rfl, ⟨by decide +kernel, by decide +kernel, by decide +kernel⟩, by decide +kernel⟩
theorem viX12_isWanted : zVir mX12_isWanted 12 := ⟨zin (zt8 (List.mem_of_getElem? (i := 76) (by decide +kernel))) rfl, zin (zt0 (List.mem_of_getElem? (i := 75) (by decide +kernel))) rfl, _, _, rfl⟩
theorem imX12_isWanted : Cond.instanceMethod yX12_isWanted ∈ zTB := zin (zt8 (List.mem_of_getElem? (i := 76) (by decide +kernel))) rfl
abbrev mX12_throwMany : zM := (yX12_throwMany, cX12_throwMany, 5, some .int, 5, 110, 0, 0)
theorem kcX12_throwMany : zCal mX12_throwMany 0 := ⟨zin (zt8 (List.mem_of_getElem? (i := 73) rfl)) rfl, zin (zt1 (List.mem_of_getElem? (i := 14) (by decide +kernel))) rfl, ⟨by decide +kernel, by decide +kernel, by decide +kernel⟩, by decide +kernel⟩
theorem viX12_throwMany : zVir mX12_throwMany 12 := ⟨zin (zt8 (List.mem_of_getElem? (i := 72) (by decide +kernel))) rfl, zin (zt0 (List.mem_of_getElem? (i := 74) (by decide +kernel))) rfl, _, _, rfl⟩
theorem imX12_throwMany : Cond.instanceMethod yX12_throwMany ∈ zTB := zin (zt8 (List.mem_of_getElem? (i := 72) (by decide +kernel))) rfl
abbrev mX12_sets : zM := (yX12_sets, cX12_sets, 6, some .int, 6, 134, 0, 0)
theorem kcX12_sets : zCal mX12_sets 1 := ⟨zin (zt8 (List.mem_of_getElem? (i := 65) rfl)) rfl, zin (zt1 (List.mem_of_getElem? (i := 14) (by decide +kernel))) rfl, ⟨by decide +kernel, by decide +kernel, by decide +kernel⟩, by decide +kernel⟩
theorem viX12_sets : zVir mX12_sets 12 := ⟨zin (zt8 (List.mem_of_getElem? (i := 63) (by decide +kernel))) rfl, zin (zt8 (List.mem_of_getElem? (i := 64) (by decide +kernel))) rfl, _, _, rfl⟩
theorem imX12_sets : Cond.instanceMethod yX12_sets ∈ zTB := zin (zt8 (List.mem_of_getElem? (i := 63) (by decide +kernel))) rfl
abbrev mX12_layOpen : zM := (yX12_layOpen, cX12_layOpen, 5, none, 5, 110, 0, 0)
theorem kcX12_layOpen : zCal mX12_layOpen 2 := ⟨zin (zt8 (List.mem_of_getElem? (i := 85) rfl)) rfl, zin (zt1 (List.mem_of_getElem? (i := 14) (by decide +kernel))) rfl, ⟨by decide +kernel, by decide +kernel, by decide +kernel⟩, by decide +kernel⟩
theorem viX12_layOpen : zVir mX12_layOpen 12 := ⟨zin (zt8 (List.mem_of_getElem? (i := 84) (by decide +kernel))) rfl, zin (zt0 (List.mem_of_getElem? (i := 76) (by decide +kernel))) rfl, _, _, rfl⟩
theorem imX12_layOpen : Cond.instanceMethod yX12_layOpen ∈ zTB := zin (zt8 (List.mem_of_getElem? (i := 84) (by decide +kernel))) rfl
abbrev mX12_codeOf : zM := (yX12_codeOf, cX12_codeOf, 2, some .int, 4, 91, 0, 0)
theorem kcX12_codeOf : zCal mX12_codeOf 1 := ⟨zin (zt8 (List.mem_of_getElem? (i := 89) rfl)) rfl, zin (zt1 (List.mem_of_getElem? (i := 14) (by decide +kernel))) rfl, ⟨by decide +kernel, by decide +kernel, by decide +kernel⟩, by decide +kernel⟩
theorem viX12_codeOf : zVir mX12_codeOf 12 := ⟨zin (zt8 (List.mem_of_getElem? (i := 88) (by decide +kernel))) rfl, zin (zt0 (List.mem_of_getElem? (i := 77) (by decide +kernel))) rfl, _, _, rfl⟩
theorem imX12_codeOf : Cond.instanceMethod yX12_codeOf ∈ zTB := zin (zt8 (List.mem_of_getElem? (i := 88) (by decide +kernel))) rfl
abbrev mX12_wayBetween : zM := (yX12_wayBetween, cX12_wayBetween, 13, some .int, 5, 110, 0, 0)
theorem kcX12_wayBetween : zCal mX12_wayBetween 2 := ⟨zin (zt8 (List.mem_of_getElem? (i := 97) rfl)) rfl, zin (zt1 (List.mem_of_getElem? (i := 14) (by decide +kernel))) rfl, ⟨by decide +kernel, by decide +kernel, by decide +kernel⟩, by decide +kernel⟩
theorem viX12_wayBetween : zVir mX12_wayBetween 12 := ⟨zin (zt8 (List.mem_of_getElem? (i := 96) (by decide +kernel))) rfl, zin (zt0 (List.mem_of_getElem? (i := 79) (by decide +kernel))) rfl, _, _, rfl⟩
theorem imX12_wayBetween : Cond.instanceMethod yX12_wayBetween ∈ zTB := zin (zt8 (List.mem_of_getElem? (i := 96) (by decide +kernel))) rfl
abbrev mX12_way : zM := (yX12_way, cX12_way, 3, some .int, 6, 142, 0, 0)
theorem kcX12_way : zCal mX12_way 2 := ⟨zin (zt8 (List.mem_of_getElem? (i := 81) rfl)) rfl, zin (zt1 (List.mem_of_getElem? (i := 14) (by decide +kernel))) rfl, ⟨by decide +kernel, by decide +kernel, by decide +kernel⟩, by decide +kernel⟩
theorem viX12_way : zVir mX12_way 12 := ⟨zin (zt8 (List.mem_of_getElem? (i := 79) (by decide +kernel))) rfl, zin (zt8 (List.mem_of_getElem? (i := 80) (by decide +kernel))) rfl, _, _, rfl⟩
theorem imX12_way : Cond.instanceMethod yX12_way ∈ zTB := zin (zt8 (List.mem_of_getElem? (i := 79) (by decide +kernel))) rfl
abbrev mX12_unseen : zM := (yX12_unseen, cX12_unseen, 5, some .int, 6, 142, 0, 0)
theorem kcX12_unseen : zCal mX12_unseen 4 := ⟨zin (zt8 (List.mem_of_getElem? (i := 101) rfl)) rfl, zin (zt1 (List.mem_of_getElem? (i := 14) (by decide +kernel))) rfl, ⟨by decide +kernel, by decide +kernel, by decide +kernel⟩, by decide +kernel⟩
theorem viX12_unseen : zVir mX12_unseen 12 := ⟨zin (zt8 (List.mem_of_getElem? (i := 99) (by decide +kernel))) rfl, zin (zt8 (List.mem_of_getElem? (i := 100) (by decide +kernel))) rfl, _, _, rfl⟩
theorem imX12_unseen : Cond.instanceMethod yX12_unseen ∈ zTB := zin (zt8 (List.mem_of_getElem? (i := 99) (by decide +kernel))) rfl
abbrev mX12_where : zM := (yX12_where, cX12_where, 8, some .int, 5, 113, 0, 0)
theorem kcX12_where : zCal mX12_where 2 := ⟨zin (zt8 (List.mem_of_getElem? (i := 105) rfl)) rfl, zin (zt1 (List.mem_of_getElem? (i := 14) (by decide +kernel))) rfl, ⟨by decide +kernel, by decide +kernel, by decide +kernel⟩, by decide +kernel⟩
theorem viX12_where : zVir mX12_where 12 := ⟨zin (zt8 (List.mem_of_getElem? (i := 103) (by decide +kernel))) rfl, zin (zt8 (List.mem_of_getElem? (i := 104) (by decide +kernel))) rfl, _, _, rfl⟩
theorem imX12_where : Cond.instanceMethod yX12_where ∈ zTB := zin (zt8 (List.mem_of_getElem? (i := 103) (by decide +kernel))) rfl
abbrev mX12_picture : zM := (yX12_picture, cX12_picture, 7, some .int, 6, 134, 0, 0)
theorem kcX12_picture : zCal mX12_picture 1 := ⟨zin (zt8 (List.mem_of_getElem? (i := 109) rfl)) rfl, zin (zt1 (List.mem_of_getElem? (i := 14) (by decide +kernel))) rfl, ⟨by decide +kernel, by decide +kernel, by decide +kernel⟩, by decide +kernel⟩
theorem viX12_picture : zVir mX12_picture 12 := ⟨zin (zt8 (List.mem_of_getElem? (i := 107) (by decide +kernel))) rfl, zin (zt8 (List.mem_of_getElem? (i := 108) (by decide +kernel))) rfl, _, _, rfl⟩
theorem imX12_picture : Cond.instanceMethod yX12_picture ∈ zTB := zin (zt8 (List.mem_of_getElem? (i := 107) (by decide +kernel))) rfl
abbrev mX12_layToCome : zM := (yX12_layToCome, cX12_layToCome, 8, none, 1, 21, 0, 0)
theorem kcX12_layToCome : zCal mX12_layToCome 0 := ⟨zin (zt8 (List.mem_of_getElem? (i := 120) rfl)) rfl, zin (zt1 (List.mem_of_getElem? (i := 14) (by decide +kernel))) rfl, ⟨by decide +kernel, by decide +kernel, by decide +kernel⟩, by decide +kernel⟩
theorem viX12_layToCome : zVir mX12_layToCome 12 := ⟨zin (zt8 (List.mem_of_getElem? (i := 119) (by decide +kernel))) rfl, zin (zt0 (List.mem_of_getElem? (i := 80) (by decide +kernel))) rfl, _, _, rfl⟩
theorem imX12_layToCome : Cond.instanceMethod yX12_layToCome ∈ zTB := zin (zt8 (List.mem_of_getElem? (i := 119) (by decide +kernel))) rfl
abbrev mX12_order : zM := (yX12_order, cX12_order, 6, some .int, 6, 142, 0, 0)
theorem kcX12_order : zCal mX12_order 2 := ⟨zin (zt8 (List.mem_of_getElem? (i := 113) rfl)) rfl, zin (zt1 (List.mem_of_getElem? (i := 14) (by decide +kernel))) rfl, ⟨by decide +kernel, by decide +kernel, by decide +kernel⟩, by decide +kernel⟩
theorem viX12_order : zVir mX12_order 12 := ⟨zin (zt8 (List.mem_of_getElem? (i := 111) (by decide +kernel))) rfl, zin (zt8 (List.mem_of_getElem? (i := 112) (by decide +kernel))) rfl, _, _, rfl⟩
theorem imX12_order : Cond.instanceMethod yX12_order ∈ zTB := zin (zt8 (List.mem_of_getElem? (i := 111) (by decide +kernel))) rfl
abbrev mX12_orderTold : zM := (yX12_orderTold, cX12_orderTold, 8, some .int, 1, 23, 0, 0)
theorem kcX12_orderTold : zCal mX12_orderTold 1 := ⟨zin (zt8 (List.mem_of_getElem? (i := 125) rfl)) rfl, zin (zt1 (List.mem_of_getElem? (i := 14) (by decide +kernel))) rfl, ⟨by decide +kernel, by decide +kernel, by decide +kernel⟩, by decide +kernel⟩
theorem viX12_orderTold : zVir mX12_orderTold 12 := ⟨zin (zt8 (List.mem_of_getElem? (i := 124) (by decide +kernel))) rfl, zin (zt0 (List.mem_of_getElem? (i := 81) (by decide +kernel))) rfl, _, _, rfl⟩
theorem imX12_orderTold : Cond.instanceMethod yX12_orderTold ∈ zTB := zin (zt8 (List.mem_of_getElem? (i := 124) (by decide +kernel))) rfl
abbrev mX12_two : zM := (yX12_two, cX12_two, 7, some .int, 6, 137, 0, 0)
theorem kcX12_two : zCal mX12_two 2 := ⟨zin (zt8 (List.mem_of_getElem? (i := 129) rfl)) rfl, zin (zt1 (List.mem_of_getElem? (i := 14) (by decide +kernel))) rfl, ⟨by decide +kernel, by decide +kernel, by decide +kernel⟩, by decide +kernel⟩
theorem viX12_two : zVir mX12_two 12 := ⟨zin (zt8 (List.mem_of_getElem? (i := 127) (by decide +kernel))) rfl, zin (zt8 (List.mem_of_getElem? (i := 128) (by decide +kernel))) rfl, _, _, rfl⟩
theorem imX12_two : Cond.instanceMethod yX12_two ∈ zTB := zin (zt8 (List.mem_of_getElem? (i := 127) (by decide +kernel))) rfl
abbrev mX12_stiff : zM := (yX12_stiff, cX12_stiff, 5, some .int, 6, 137, 0, 0)
theorem kcX12_stiff : zCal mX12_stiff 2 := ⟨zin (zt8 (List.mem_of_getElem? (i := 133) rfl)) rfl, zin (zt1 (List.mem_of_getElem? (i := 14) (by decide +kernel))) rfl, ⟨by decide +kernel, by decide +kernel, by decide +kernel⟩, by decide +kernel⟩
theorem viX12_stiff : zVir mX12_stiff 12 := ⟨zin (zt8 (List.mem_of_getElem? (i := 131) (by decide +kernel))) rfl, zin (zt8 (List.mem_of_getElem? (i := 132) (by decide +kernel))) rfl, _, _, rfl⟩
theorem imX12_stiff : Cond.instanceMethod yX12_stiff ∈ zTB := zin (zt8 (List.mem_of_getElem? (i := 131) (by decide +kernel))) rfl
abbrev mX12_isLooker : zM := (yX12_isLooker, cX12_isLooker, 2, some .boolean, 1, 22, 0, 0)
theorem kcX12_isLooker : zCal mX12_isLooker 1 := ⟨zin (zt8 (List.mem_of_getElem? (i := 145) rfl)) rfl, zin (zt1 (List.mem_of_getElem? (i := 14) (by decide +kernel))) rfl, ⟨by decide +kernel, by decide +kernel, by decide +kernel⟩, by decide +kernel⟩
theorem viX12_isLooker : zVir mX12_isLooker 12 := ⟨zin (zt8 (List.mem_of_getElem? (i := 144) (by decide +kernel))) rfl, zin (zt0 (List.mem_of_getElem? (i := 82) (by decide +kernel))) rfl, _, _, rfl⟩
theorem imX12_isLooker : Cond.instanceMethod yX12_isLooker ∈ zTB := zin (zt8 (List.mem_of_getElem? (i := 144) (by decide +kernel))) rfl
abbrev mX12_looker : zM := (yX12_looker, cX12_looker, 4, some .int, 1, 22, 0, 0)
theorem kcX12_looker : zCal mX12_looker 3 := ⟨zin (zt8 (List.mem_of_getElem? (i := 137) rfl)) rfl, zin (zt1 (List.mem_of_getElem? (i := 14) (by decide +kernel))) rfl, ⟨by decide +kernel, by decide +kernel, by decide +kernel⟩, by decide +kernel⟩
theorem viX12_looker : zVir mX12_looker 12 := ⟨zin (zt8 (List.mem_of_getElem? (i := 135) (by decide +kernel))) rfl, zin (zt8 (List.mem_of_getElem? (i := 136) (by decide +kernel))) rfl, _, _, rfl⟩
theorem imX12_looker : Cond.instanceMethod yX12_looker ∈ zTB := zin (zt8 (List.mem_of_getElem? (i := 135) (by decide +kernel))) rfl
abbrev mX12_weight : zM := (yX12_weight, cX12_weight, 3, some .int, 2, 43, 0, 0)
theorem kcX12_weight : zCal mX12_weight 2 := ⟨zin (zt8 (List.mem_of_getElem? (i := 141) rfl)) rfl, zin (zt1 (List.mem_of_getElem? (i := 14) (by decide +kernel))) rfl, ⟨by decide +kernel, by decide +kernel, by decide +kernel⟩, by decide +kernel⟩
theorem viX12_weight : zVir mX12_weight 12 := ⟨zin (zt8 (List.mem_of_getElem? (i := 139) (by decide +kernel))) rfl, zin (zt8 (List.mem_of_getElem? (i := 140) (by decide +kernel))) rfl, _, _, rfl⟩
theorem imX12_weight : Cond.instanceMethod yX12_weight ∈ zTB := zin (zt8 (List.mem_of_getElem? (i := 139) (by decide +kernel))) rfl
abbrev mX12_call : zM := (yX12_call, cX12_call, 4, some .int, 2, 43, 0, 0)
theorem kcX12_call : zCal mX12_call 3 := ⟨zin (zt8 (List.mem_of_getElem? (i := 149) rfl)) rfl, zin (zt1 (List.mem_of_getElem? (i := 14) (by decide +kernel))) rfl, ⟨by decide +kernel, by decide +kernel, by decide +kernel⟩, by decide +kernel⟩
theorem viX12_call : zVir mX12_call 12 := ⟨zin (zt8 (List.mem_of_getElem? (i := 147) (by decide +kernel))) rfl, zin (zt8 (List.mem_of_getElem? (i := 148) (by decide +kernel))) rfl, _, _, rfl⟩
theorem imX12_call : Cond.instanceMethod yX12_call ∈ zTB := zin (zt8 (List.mem_of_getElem? (i := 147) (by decide +kernel))) rfl
abbrev mX12_guessOf : zM := (yX12_guessOf, cX12_guessOf, 9, some .int, 5, 113, 0, 0)
theorem kcX12_guessOf : zCal mX12_guessOf 4 := ⟨zin (zt8 (List.mem_of_getElem? (i := 157) rfl)) rfl, zin (zt1 (List.mem_of_getElem? (i := 14) (by decide +kernel))) rfl, ⟨by decide +kernel, by decide +kernel, by decide +kernel⟩, by decide +kernel⟩
theorem viX12_guessOf : zVir mX12_guessOf 12 := ⟨zin (zt8 (List.mem_of_getElem? (i := 156) (by decide +kernel))) rfl, zin (zt0 (List.mem_of_getElem? (i := 83) (by decide +kernel))) rfl, _, _, rfl⟩
theorem imX12_guessOf : Cond.instanceMethod yX12_guessOf ∈ zTB := zin (zt8 (List.mem_of_getElem? (i := 156) (by decide +kernel))) rfl
abbrev mX12_guess : zM := (yX12_guess, cX12_guess, 4, some .int, 6, 141, 0, 0)
theorem kcX12_guess : zCal mX12_guess 2 := ⟨zin (zt8 (List.mem_of_getElem? (i := 153) rfl)) rfl, zin (zt1 (List.mem_of_getElem? (i := 14) (by decide +kernel))) rfl, ⟨by decide +kernel, by decide +kernel, by decide +kernel⟩, by decide +kernel⟩
theorem viX12_guess : zVir mX12_guess 12 := ⟨zin (zt8 (List.mem_of_getElem? (i := 151) (by decide +kernel))) rfl, zin (zt8 (List.mem_of_getElem? (i := 152) (by decide +kernel))) rfl, _, _, rfl⟩
theorem imX12_guess : Cond.instanceMethod yX12_guess ∈ zTB := zin (zt8 (List.mem_of_getElem? (i := 151) (by decide +kernel))) rfl
abbrev mX12_agreesBy : zM := (yX12_agreesBy, cX12_agreesBy, 7, some .int, 6, 141, 0, 0)
theorem kcX12_agreesBy : zCal mX12_agreesBy 4 := ⟨zin (zt8 (List.mem_of_getElem? (i := 165) rfl)) rfl, zin (zt1 (List.mem_of_getElem? (i := 14) (by decide +kernel))) rfl, ⟨by decide +kernel, by decide +kernel, by decide +kernel⟩, by decide +kernel⟩
theorem viX12_agreesBy : zVir mX12_agreesBy 12 := ⟨zin (zt8 (List.mem_of_getElem? (i := 164) (by decide +kernel))) rfl, zin (zt0 (List.mem_of_getElem? (i := 84) (by decide +kernel))) rfl, _, _, rfl⟩
theorem imX12_agreesBy : Cond.instanceMethod yX12_agreesBy ∈ zTB := zin (zt8 (List.mem_of_getElem? (i := 164) (by decide +kernel))) rfl
abbrev mX12_agrees : zM := (yX12_agrees, cX12_agrees, 4, some .int, 7, 167, 0, 0)
theorem kcX12_agrees : zCal mX12_agrees 1 := ⟨zin (zt8 (List.mem_of_getElem? (i := 161) rfl)) rfl, zin (zt1 (List.mem_of_getElem? (i := 14) (by decide +kernel))) rfl, ⟨by decide +kernel, by decide +kernel, by decide +kernel⟩, by decide +kernel⟩
theorem viX12_agrees : zVir mX12_agrees 12 := ⟨zin (zt8 (List.mem_of_getElem? (i := 159) (by decide +kernel))) rfl, zin (zt8 (List.mem_of_getElem? (i := 160) (by decide +kernel))) rfl, _, _, rfl⟩
theorem imX12_agrees : Cond.instanceMethod yX12_agrees ∈ zTB := zin (zt8 (List.mem_of_getElem? (i := 159) (by decide +kernel))) rfl
abbrev mX12_fit : zM := (yX12_fit, cX12_fit, 6, some .int, 7, 167, 0, 0)
theorem kcX12_fit : zCal mX12_fit 1 := ⟨zin (zt8 (List.mem_of_getElem? (i := 169) rfl)) rfl, zin (zt1 (List.mem_of_getElem? (i := 14) (by decide +kernel))) rfl, ⟨by decide +kernel, by decide +kernel, by decide +kernel⟩, by decide +kernel⟩
theorem viX12_fit : zVir mX12_fit 12 := ⟨zin (zt8 (List.mem_of_getElem? (i := 167) (by decide +kernel))) rfl, zin (zt8 (List.mem_of_getElem? (i := 168) (by decide +kernel))) rfl, _, _, rfl⟩
theorem imX12_fit : Cond.instanceMethod yX12_fit ∈ zTB := zin (zt8 (List.mem_of_getElem? (i := 167) (by decide +kernel))) rfl
abbrev mX12_odds : zM := (yX12_odds, cX12_odds, 6, some .int, 2, 43, 0, 0)
theorem kcX12_odds : zCal mX12_odds 2 := ⟨zin (zt8 (List.mem_of_getElem? (i := 173) rfl)) rfl, zin (zt1 (List.mem_of_getElem? (i := 14) (by decide +kernel))) rfl, ⟨by decide +kernel, by decide +kernel, by decide +kernel⟩, by decide +kernel⟩
theorem viX12_odds : zVir mX12_odds 12 := ⟨zin (zt8 (List.mem_of_getElem? (i := 171) (by decide +kernel))) rfl, zin (zt8 (List.mem_of_getElem? (i := 172) (by decide +kernel))) rfl, _, _, rfl⟩
theorem imX12_odds : Cond.instanceMethod yX12_odds ∈ zTB := zin (zt8 (List.mem_of_getElem? (i := 171) (by decide +kernel))) rfl
abbrev mX12_counted : zM := (yX12_counted, cX12_counted, 4, some .int, 2, 42, 0, 0)
theorem kcX12_counted : zCal mX12_counted 1 := ⟨zin (zt8 (List.mem_of_getElem? (i := 185) rfl)) rfl, zin (zt1 (List.mem_of_getElem? (i := 14) (by decide +kernel))) rfl, ⟨by decide +kernel, by decide +kernel, by decide +kernel⟩, by decide +kernel⟩
theorem viX12_counted : zVir mX12_counted 12 := ⟨zin (zt8 (List.mem_of_getElem? (i := 184) (by decide +kernel))) rfl, zin (zt0 (List.mem_of_getElem? (i := 86) (by decide +kernel))) rfl, _, _, rfl⟩
theorem imX12_counted : Cond.instanceMethod yX12_counted ∈ zTB := zin (zt8 (List.mem_of_getElem? (i := 184) (by decide +kernel))) rfl
abbrev mX12_count : zM := (yX12_count, cX12_count, 2, some .int, 3, 65, 0, 0)
theorem kcX12_count : zCal mX12_count 1 := ⟨zin (zt8 (List.mem_of_getElem? (i := 181) rfl)) rfl, zin (zt1 (List.mem_of_getElem? (i := 14) (by decide +kernel))) rfl, ⟨by decide +kernel, by decide +kernel, by decide +kernel⟩, by decide +kernel⟩
theorem viX12_count : zVir mX12_count 12 := ⟨zin (zt8 (List.mem_of_getElem? (i := 179) (by decide +kernel))) rfl, zin (zt8 (List.mem_of_getElem? (i := 180) (by decide +kernel))) rfl, _, _, rfl⟩
theorem imX12_count : Cond.instanceMethod yX12_count ∈ zTB := zin (zt8 (List.mem_of_getElem? (i := 179) (by decide +kernel))) rfl
abbrev mX12_mix : zM := (yX12_mix, cX12_mix, 3, none, 0, 0, 0, 0)
theorem kcX12_mix : zCal mX12_mix 1 := ⟨zin (zt8 (List.mem_of_getElem? (i := 194) rfl)) rfl, zin (zt1 (List.mem_of_getElem? (i := 14) (by decide +kernel))) rfl, ⟨by decide +kernel, by decide +kernel, by decide +kernel⟩, by decide +kernel⟩
theorem viX12_mix : zVir mX12_mix 12 := ⟨zin (zt8 (List.mem_of_getElem? (i := 193) (by decide +kernel))) rfl, zin (zt0 (List.mem_of_getElem? (i := 87) (by decide +kernel))) rfl, _, _, rfl⟩
theorem imX12_mix : Cond.instanceMethod yX12_mix ∈ zTB := zin (zt8 (List.mem_of_getElem? (i := 193) (by decide +kernel))) rfl
abbrev mX12_mixHands : zM := (yX12_mixHands, cX12_mixHands, 3, none, 5, 113, 0, 0)
theorem kcX12_mixHands : zCal mX12_mixHands 0 := ⟨zin (zt8 (List.mem_of_getElem? (i := 199) rfl)) rfl, zin (zt1 (List.mem_of_getElem? (i := 14) (by decide +kernel))) rfl, ⟨by decide +kernel, by decide +kernel, by decide +kernel⟩, by decide +kernel⟩
theorem viX12_mixHands : zVir mX12_mixHands 12 := ⟨zin (zt8 (List.mem_of_getElem? (i := 198) (by decide +kernel))) rfl, zin (zt0 (List.mem_of_getElem? (i := 88) (by decide +kernel))) rfl, _, _, rfl⟩
theorem imX12_mixHands : Cond.instanceMethod yX12_mixHands ∈ zTB := zin (zt8 (List.mem_of_getElem? (i := 198) (by decide +kernel))) rfl
abbrev mX12_mixBeasts : zM := (yX12_mixBeasts, cX12_mixBeasts, 3, none, 1, 22, 0, 0)
theorem kcX12_mixBeasts : zCal mX12_mixBeasts 0 := ⟨zin (zt8 (List.mem_of_getElem? (i := 203) rfl)) rfl, zin (zt1 (List.mem_of_getElem? (i := 14) (by decide +kernel))) rfl, ⟨by decide +kernel, by decide +kernel, by decide +kernel⟩, by decide +kernel⟩
theorem viX12_mixBeasts : zVir mX12_mixBeasts 12 := ⟨zin (zt8 (List.mem_of_getElem? (i := 202) (by decide +kernel))) rfl, zin (zt0 (List.mem_of_getElem? (i := 89) (by decide +kernel))) rfl, _, _, rfl⟩
theorem imX12_mixBeasts : Cond.instanceMethod yX12_mixBeasts ∈ zTB := zin (zt8 (List.mem_of_getElem? (i := 202) (by decide +kernel))) rfl
abbrev mX12_digest : zM := (yX12_digest, cX12_digest, 3, some .long, 6, 135, 0, 0)
theorem kcX12_digest : zCal mX12_digest 0 := ⟨zin (zt8 (List.mem_of_getElem? (i := 189) rfl)) rfl, zin (zt1 (List.mem_of_getElem? (i := 14) (by decide +kernel))) rfl, ⟨by decide +kernel, by decide +kernel, by decide +kernel⟩, by decide +kernel⟩
theorem viX12_digest : zVir mX12_digest 12 := ⟨zin (zt8 (List.mem_of_getElem? (i := 187) (by decide +kernel))) rfl, zin (zt8 (List.mem_of_getElem? (i := 188) (by decide +kernel))) rfl, _, _, rfl⟩
theorem imX12_digest : Cond.instanceMethod yX12_digest ∈ zTB := zin (zt8 (List.mem_of_getElem? (i := 187) (by decide +kernel))) rfl
abbrev mJ6_numberOfTrailingZeros_0f7a4 : zM := (yJ6_numberOfTrailingZeros_0f7a4, cJ6_numberOfTrailingZeros_0f7a4, 2, some .int, 0, 0, 0, 0)
theorem kcJ6_numberOfTrailingZeros_0f7a4 : zCal mJ6_numberOfTrailingZeros_0f7a4 1 := ⟨zin (zt4 (List.mem_of_getElem? (i := 115) rfl)) rfl, zin (zt1 (List.mem_of_getElem? (i := 17) (by decide +kernel))) rfl, ⟨by decide +kernel, by decide +kernel, by decide +kernel⟩, by decide +kernel⟩
theorem smJ6_numberOfTrailingZeros_0f7a4 : Cond.static yJ6_numberOfTrailingZeros_0f7a4 ∈ zTB := zin (zt4 (List.mem_of_getElem? (i := 114) (by decide +kernel))) rfl
abbrev mJ6_bitCount_0f7a4 : zM := (yJ6_bitCount_0f7a4, cJ6_bitCount_0f7a4, 1, some .int, 0, 0, 0, 0)
theorem kcJ6_bitCount_0f7a4 : zCal mJ6_bitCount_0f7a4 1 := ⟨zin (zt5 (List.mem_of_getElem? (i := 59) rfl)) rfl, zin (zt1 (List.mem_of_getElem? (i := 17) (by decide +kernel))) rfl, ⟨by decide +kernel, by decide +kernel, by decide +kernel⟩, by decide +kernel⟩
theorem smJ6_bitCount_0f7a4 : Cond.static yJ6_bitCount_0f7a4 ∈ zTB := zin (zt5 (List.mem_of_getElem? (i := 58) (by decide +kernel))) rfl
abbrev mJ13_numberOfTrailingZeros_95d88 : zM := (yJ13_numberOfTrailingZeros_95d88, cJ13_numberOfTrailingZeros_95d88, 3, some .int, 1, 21, 0, 0)
theorem kcJ13_numberOfTrailingZeros_95d88 : zCal mJ13_numberOfTrailingZeros_95d88 1 := ⟨zin (zt4 (List.mem_of_getElem? (i := 112) rfl)) rfl, zin (zt1 (List.mem_of_getElem? (i := 16) (by decide +kernel))) rfl, ⟨by decide +kernel, by decide +kernel, by decide +kernel⟩, by decide +kernel⟩
theorem smJ13_numberOfTrailingZeros_95d88 : Cond.static yJ13_numberOfTrailingZeros_95d88 ∈ zTB := zin (zt4 (List.mem_of_getElem? (i := 111) (by decide +kernel))) rfl
abbrev mJ13_bitCount_95d88 : zM := (yJ13_bitCount_95d88, cJ13_bitCount_95d88, 2, some .int, 0, 0, 0, 0)
theorem kcJ13_bitCount_95d88 : zCal mJ13_bitCount_95d88 1 := ⟨zin (zt4 (List.mem_of_getElem? (i := 59) rfl)) rfl, zin (zt1 (List.mem_of_getElem? (i := 16) (by decide +kernel))) rfl, ⟨by decide +kernel, by decide +kernel, by decide +kernel⟩, by decide +kernel⟩
theorem smJ13_bitCount_95d88 : Cond.static yJ13_bitCount_95d88 ∈ zTB := zin (zt4 (List.mem_of_getElem? (i := 58) (by decide +kernel))) rfl
abbrev mJ9_abs_0f7a4 : zM := (yJ9_abs_0f7a4, cJ9_abs_0f7a4, 1, some .int, 0, 0, 0, 0)
abbrev mJ9_max_7cf53 : zM := (yJ9_max_7cf53, cJ9_max_7cf53, 2, some .int, 0, 0, 0, 0)
abbrev mJ9_min_7cf53 : zM := (yJ9_min_7cf53, cJ9_min_7cf53, 2, some .int, 0, 0, 0, 0)
theorem mlJ13_311 : Cond.methodLink RJ13 311 yJ6_numberOfTrailingZeros_0f7a4 ∈ zTB := zin (zt4 (List.mem_of_getElem? (i := 113) (by decide +kernel))) rfl
theorem mlL_9 : Cond.methodLink RL 9 yX11_init ∈ zTB := zin (zt1 (List.mem_of_getElem? (i := 20) (by decide +kernel))) rfl
theorem mlL_12 : Cond.methodLink RL 12 yX12_init ∈ zTB := zin (zt6 (List.mem_of_getElem? (i := 32) (by decide +kernel))) rfl
theorem mlL_13 : Cond.methodLink RL 13 yX11_row ∈ zTB := zin (zt2 (List.mem_of_getElem? (i := 226) (by decide +kernel))) rfl
theorem mlL_17 : Cond.methodLink RL 17 yX12_row ∈ zTB := zin (zt6 (List.mem_of_getElem? (i := 238) (by decide +kernel))) rfl
theorem mlL_18 : Cond.methodLink RL 18 yX11_lay ∈ zTB := zin (zt3 (List.mem_of_getElem? (i := 1) (by decide +kernel))) rfl
theorem mlL_22 : Cond.methodLink RL 22 yX12_lay ∈ zTB := zin (zt7 (List.mem_of_getElem? (i := 9) (by decide +kernel))) rfl
theorem mlL_23 : Cond.methodLink RL 23 yX11_at ∈ zTB := zin (zt3 (List.mem_of_getElem? (i := 26) (by decide +kernel))) rfl
theorem mlL_26 : Cond.methodLink RL 26 yX12_at ∈ zTB := zin (zt7 (List.mem_of_getElem? (i := 21) (by decide +kernel))) rfl
theorem mlL_27 : Cond.methodLink RL 27 yX11_tear ∈ zTB := zin (zt3 (List.mem_of_getElem? (i := 30) (by decide +kernel))) rfl
theorem mlL_31 : Cond.methodLink RL 31 yX12_tear ∈ zTB := zin (zt7 (List.mem_of_getElem? (i := 25) (by decide +kernel))) rfl
theorem mlL_32 : Cond.methodLink RL 32 yX11_copy ∈ zTB := zin (zt3 (List.mem_of_getElem? (i := 38) (by decide +kernel))) rfl
theorem mlL_36 : Cond.methodLink RL 36 yX12_copy ∈ zTB := zin (zt7 (List.mem_of_getElem? (i := 29) (by decide +kernel))) rfl
theorem mlL_37 : Cond.methodLink RL 37 yX11_mean ∈ zTB := zin (zt3 (List.mem_of_getElem? (i := 54) (by decide +kernel))) rfl
theorem mlL_40 : Cond.methodLink RL 40 yX12_mean ∈ zTB := zin (zt7 (List.mem_of_getElem? (i := 33) (by decide +kernel))) rfl
theorem mlL_41 : Cond.methodLink RL 41 yX11_text ∈ zTB := zin (zt3 (List.mem_of_getElem? (i := 63) (by decide +kernel))) rfl
theorem mlL_44 : Cond.methodLink RL 44 yX12_text ∈ zTB := zin (zt7 (List.mem_of_getElem? (i := 37) (by decide +kernel))) rfl
theorem mlL_45 : Cond.methodLink RL 45 yX11_put ∈ zTB := zin (zt3 (List.mem_of_getElem? (i := 70) (by decide +kernel))) rfl
theorem mlL_48 : Cond.methodLink RL 48 yX12_put ∈ zTB := zin (zt7 (List.mem_of_getElem? (i := 44) (by decide +kernel))) rfl
theorem mlL_49 : Cond.methodLink RL 49 yX11_fault ∈ zTB := zin (zt3 (List.mem_of_getElem? (i := 74) (by decide +kernel))) rfl
theorem mlL_52 : Cond.methodLink RL 52 yX12_fault ∈ zTB := zin (zt7 (List.mem_of_getElem? (i := 48) (by decide +kernel))) rfl
theorem mlL_53 : Cond.methodLink RL 53 yX11_hands ∈ zTB := zin (zt3 (List.mem_of_getElem? (i := 123) (by decide +kernel))) rfl
theorem mlL_56 : Cond.methodLink RL 56 yX12_hands ∈ zTB := zin (zt7 (List.mem_of_getElem? (i := 76) (by decide +kernel))) rfl
theorem mlL_57 : Cond.methodLink RL 57 yX11_finger ∈ zTB := zin (zt3 (List.mem_of_getElem? (i := 206) (by decide +kernel))) rfl
theorem mlL_60 : Cond.methodLink RL 60 yX12_finger ∈ zTB := zin (zt7 (List.mem_of_getElem? (i := 80) (by decide +kernel))) rfl
theorem mlL_61 : Cond.methodLink RL 61 yX11_joint ∈ zTB := zin (zt3 (List.mem_of_getElem? (i := 210) (by decide +kernel))) rfl
theorem mlL_64 : Cond.methodLink RL 64 yX12_joint ∈ zTB := zin (zt7 (List.mem_of_getElem? (i := 84) (by decide +kernel))) rfl
theorem mlL_65 : Cond.methodLink RL 65 yX11_strain ∈ zTB := zin (zt3 (List.mem_of_getElem? (i := 218) (by decide +kernel))) rfl
theorem mlL_68 : Cond.methodLink RL 68 yX12_strain ∈ zTB := zin (zt7 (List.mem_of_getElem? (i := 92) (by decide +kernel))) rfl
theorem mlL_69 : Cond.methodLink RL 69 yX11_lamp ∈ zTB := zin (zt3 (List.mem_of_getElem? (i := 222) (by decide +kernel))) rfl
theorem mlL_72 : Cond.methodLink RL 72 yX12_lamp ∈ zTB := zin (zt7 (List.mem_of_getElem? (i := 96) (by decide +kernel))) rfl
theorem mlL_73 : Cond.methodLink RL 73 yX11_pose ∈ zTB := zin (zt3 (List.mem_of_getElem? (i := 237) (by decide +kernel))) rfl
theorem mlL_76 : Cond.methodLink RL 76 yX12_pose ∈ zTB := zin (zt7 (List.mem_of_getElem? (i := 108) (by decide +kernel))) rfl
theorem mlL_77 : Cond.methodLink RL 77 yX11_help ∈ zTB := zin (zt4 (List.mem_of_getElem? (i := 28) (by decide +kernel))) rfl
theorem mlL_80 : Cond.methodLink RL 80 yX12_help ∈ zTB := zin (zt7 (List.mem_of_getElem? (i := 160) (by decide +kernel))) rfl
theorem mlL_81 : Cond.methodLink RL 81 yX11_back ∈ zTB := zin (zt4 (List.mem_of_getElem? (i := 63) (by decide +kernel))) rfl
theorem mlL_84 : Cond.methodLink RL 84 yX12_back ∈ zTB := zin (zt7 (List.mem_of_getElem? (i := 187) (by decide +kernel))) rfl
theorem mlL_85 : Cond.methodLink RL 85 yX11_about ∈ zTB := zin (zt4 (List.mem_of_getElem? (i := 67) (by decide +kernel))) rfl
theorem mlL_88 : Cond.methodLink RL 88 yX12_about ∈ zTB := zin (zt7 (List.mem_of_getElem? (i := 191) (by decide +kernel))) rfl
theorem mlL_89 : Cond.methodLink RL 89 yX11_turn ∈ zTB := zin (zt4 (List.mem_of_getElem? (i := 71) (by decide +kernel))) rfl
theorem mlL_92 : Cond.methodLink RL 92 yX12_turn ∈ zTB := zin (zt7 (List.mem_of_getElem? (i := 199) (by decide +kernel))) rfl
theorem mlL_93 : Cond.methodLink RL 93 yX11_mark ∈ zTB := zin (zt4 (List.mem_of_getElem? (i := 75) (by decide +kernel))) rfl
theorem mlL_96 : Cond.methodLink RL 96 yX12_mark ∈ zTB := zin (zt7 (List.mem_of_getElem? (i := 203) (by decide +kernel))) rfl
theorem mlL_97 : Cond.methodLink RL 97 yX11_shape ∈ zTB := zin (zt4 (List.mem_of_getElem? (i := 79) (by decide +kernel))) rfl
theorem mlL_100 : Cond.methodLink RL 100 yX12_shape ∈ zTB := zin (zt7 (List.mem_of_getElem? (i := 207) (by decide +kernel))) rfl
theorem mlL_101 : Cond.methodLink RL 101 yX11_thrown ∈ zTB := zin (zt4 (List.mem_of_getElem? (i := 93) (by decide +kernel))) rfl
theorem mlL_104 : Cond.methodLink RL 104 yX12_thrown ∈ zTB := zin (zt7 (List.mem_of_getElem? (i := 235) (by decide +kernel))) rfl
theorem mlL_105 : Cond.methodLink RL 105 yX11_beast ∈ zTB := zin (zt4 (List.mem_of_getElem? (i := 126) (by decide +kernel))) rfl
theorem mlL_109 : Cond.methodLink RL 109 yX12_beast ∈ zTB := zin (zt8 (List.mem_of_getElem? (i := 7) (by decide +kernel))) rfl
theorem mlL_110 : Cond.methodLink RL 110 yX11_off ∈ zTB := zin (zt4 (List.mem_of_getElem? (i := 133) (by decide +kernel))) rfl
theorem mlL_113 : Cond.methodLink RL 113 yX12_off ∈ zTB := zin (zt8 (List.mem_of_getElem? (i := 14) (by decide +kernel))) rfl
theorem mlL_114 : Cond.methodLink RL 114 yX11_many ∈ zTB := zin (zt4 (List.mem_of_getElem? (i := 152) (by decide +kernel))) rfl
theorem mlL_118 : Cond.methodLink RL 118 yX12_many ∈ zTB := zin (zt8 (List.mem_of_getElem? (i := 30) (by decide +kernel))) rfl
theorem mlL_119 : Cond.methodLink RL 119 yX11_nearest ∈ zTB := zin (zt4 (List.mem_of_getElem? (i := 165) (by decide +kernel))) rfl
theorem mlL_122 : Cond.methodLink RL 122 yX12_nearest ∈ zTB := zin (zt8 (List.mem_of_getElem? (i := 42) (by decide +kernel))) rfl
theorem mlL_123 : Cond.methodLink RL 123 yX11_never ∈ zTB := zin (zt4 (List.mem_of_getElem? (i := 190) (by decide +kernel))) rfl
theorem mlL_126 : Cond.methodLink RL 126 yX12_never ∈ zTB := zin (zt8 (List.mem_of_getElem? (i := 58) (by decide +kernel))) rfl
theorem mlL_127 : Cond.methodLink RL 127 yX11_sets ∈ zTB := zin (zt4 (List.mem_of_getElem? (i := 209) (by decide +kernel))) rfl
theorem mlL_130 : Cond.methodLink RL 130 yX12_sets ∈ zTB := zin (zt8 (List.mem_of_getElem? (i := 62) (by decide +kernel))) rfl
theorem mlL_131 : Cond.methodLink RL 131 yX11_way ∈ zTB := zin (zt4 (List.mem_of_getElem? (i := 229) (by decide +kernel))) rfl
theorem mlL_134 : Cond.methodLink RL 134 yX12_way ∈ zTB := zin (zt8 (List.mem_of_getElem? (i := 78) (by decide +kernel))) rfl
theorem mlL_135 : Cond.methodLink RL 135 yX11_unseen ∈ zTB := zin (zt5 (List.mem_of_getElem? (i := 22) (by decide +kernel))) rfl
theorem mlL_138 : Cond.methodLink RL 138 yX12_unseen ∈ zTB := zin (zt8 (List.mem_of_getElem? (i := 98) (by decide +kernel))) rfl
theorem mlL_139 : Cond.methodLink RL 139 yX11_where ∈ zTB := zin (zt5 (List.mem_of_getElem? (i := 31) (by decide +kernel))) rfl
theorem mlL_142 : Cond.methodLink RL 142 yX12_where ∈ zTB := zin (zt8 (List.mem_of_getElem? (i := 102) (by decide +kernel))) rfl
theorem mlL_143 : Cond.methodLink RL 143 yX11_picture ∈ zTB := zin (zt5 (List.mem_of_getElem? (i := 40) (by decide +kernel))) rfl
theorem mlL_146 : Cond.methodLink RL 146 yX12_picture ∈ zTB := zin (zt8 (List.mem_of_getElem? (i := 106) (by decide +kernel))) rfl
theorem mlL_147 : Cond.methodLink RL 147 yX11_order ∈ zTB := zin (zt5 (List.mem_of_getElem? (i := 53) (by decide +kernel))) rfl
theorem mlL_150 : Cond.methodLink RL 150 yX12_order ∈ zTB := zin (zt8 (List.mem_of_getElem? (i := 110) (by decide +kernel))) rfl
theorem mlL_151 : Cond.methodLink RL 151 yX11_two ∈ zTB := zin (zt5 (List.mem_of_getElem? (i := 94) (by decide +kernel))) rfl
theorem mlL_154 : Cond.methodLink RL 154 yX12_two ∈ zTB := zin (zt8 (List.mem_of_getElem? (i := 126) (by decide +kernel))) rfl
theorem mlL_155 : Cond.methodLink RL 155 yX11_stiff ∈ zTB := zin (zt5 (List.mem_of_getElem? (i := 105) (by decide +kernel))) rfl
theorem mlL_158 : Cond.methodLink RL 158 yX12_stiff ∈ zTB := zin (zt8 (List.mem_of_getElem? (i := 130) (by decide +kernel))) rfl
theorem mlL_159 : Cond.methodLink RL 159 yX11_looker ∈ zTB := zin (zt5 (List.mem_of_getElem? (i := 109) (by decide +kernel))) rfl
theorem mlL_162 : Cond.methodLink RL 162 yX12_looker ∈ zTB := zin (zt8 (List.mem_of_getElem? (i := 134) (by decide +kernel))) rfl
theorem mlL_163 : Cond.methodLink RL 163 yX11_weight ∈ zTB := zin (zt5 (List.mem_of_getElem? (i := 120) (by decide +kernel))) rfl
theorem mlL_166 : Cond.methodLink RL 166 yX12_weight ∈ zTB := zin (zt8 (List.mem_of_getElem? (i := 138) (by decide +kernel))) rfl
theorem mlL_167 : Cond.methodLink RL 167 yX11_call ∈ zTB := zin (zt5 (List.mem_of_getElem? (i := 128) (by decide +kernel))) rfl
theorem mlL_170 : Cond.methodLink RL 170 yX12_call ∈ zTB := zin (zt8 (List.mem_of_getElem? (i := 146) (by decide +kernel))) rfl
theorem mlL_171 : Cond.methodLink RL 171 yX11_guess ∈ zTB := zin (zt5 (List.mem_of_getElem? (i := 136) (by decide +kernel))) rfl
theorem mlL_174 : Cond.methodLink RL 174 yX12_guess ∈ zTB := zin (zt8 (List.mem_of_getElem? (i := 150) (by decide +kernel))) rfl
theorem mlL_175 : Cond.methodLink RL 175 yX11_agrees ∈ zTB := zin (zt5 (List.mem_of_getElem? (i := 158) (by decide +kernel))) rfl
theorem mlL_178 : Cond.methodLink RL 178 yX12_agrees ∈ zTB := zin (zt8 (List.mem_of_getElem? (i := 158) (by decide +kernel))) rfl
theorem mlL_179 : Cond.methodLink RL 179 yX11_fit ∈ zTB := zin (zt5 (List.mem_of_getElem? (i := 162) (by decide +kernel))) rfl
theorem mlL_182 : Cond.methodLink RL 182 yX12_fit ∈ zTB := zin (zt8 (List.mem_of_getElem? (i := 166) (by decide +kernel))) rfl
theorem mlL_183 : Cond.methodLink RL 183 yX11_odds ∈ zTB := zin (zt5 (List.mem_of_getElem? (i := 182) (by decide +kernel))) rfl
theorem mlL_186 : Cond.methodLink RL 186 yX12_odds ∈ zTB := zin (zt8 (List.mem_of_getElem? (i := 170) (by decide +kernel))) rfl
theorem mlL_187 : Cond.methodLink RL 187 yX11_asked ∈ zTB := zin (zt5 (List.mem_of_getElem? (i := 194) (by decide +kernel))) rfl
theorem mlL_190 : Cond.methodLink RL 190 yX12_asked ∈ zTB := zin (zt6 (List.mem_of_getElem? (i := 226) (by decide +kernel))) rfl
theorem mlL_191 : Cond.methodLink RL 191 yX11_upper ∈ zTB := zin (zt5 (List.mem_of_getElem? (i := 198) (by decide +kernel))) rfl
theorem mlL_195 : Cond.methodLink RL 195 yX12_upper ∈ zTB := zin (zt6 (List.mem_of_getElem? (i := 230) (by decide +kernel))) rfl
theorem mlL_196 : Cond.methodLink RL 196 yX11_lower ∈ zTB := zin (zt5 (List.mem_of_getElem? (i := 202) (by decide +kernel))) rfl
theorem mlL_199 : Cond.methodLink RL 199 yX12_lower ∈ zTB := zin (zt6 (List.mem_of_getElem? (i := 234) (by decide +kernel))) rfl
theorem mlL_200 : Cond.methodLink RL 200 yX11_count ∈ zTB := zin (zt5 (List.mem_of_getElem? (i := 206) (by decide +kernel))) rfl
theorem mlL_203 : Cond.methodLink RL 203 yX12_count ∈ zTB := zin (zt8 (List.mem_of_getElem? (i := 178) (by decide +kernel))) rfl
theorem mlL_204 : Cond.methodLink RL 204 yX11_finding ∈ zTB := zin (zt5 (List.mem_of_getElem? (i := 221) (by decide +kernel))) rfl
theorem mlL_207 : Cond.methodLink RL 207 yX12_finding ∈ zTB := zin (zt6 (List.mem_of_getElem? (i := 215) (by decide +kernel))) rfl
theorem mlL_208 : Cond.methodLink RL 208 yX11_findings ∈ zTB := zin (zt5 (List.mem_of_getElem? (i := 225) (by decide +kernel))) rfl
theorem mlL_211 : Cond.methodLink RL 211 yX12_findings ∈ zTB := zin (zt6 (List.mem_of_getElem? (i := 219) (by decide +kernel))) rfl
theorem mlL_212 : Cond.methodLink RL 212 yX11_digest ∈ zTB := zin (zt5 (List.mem_of_getElem? (i := 229) (by decide +kernel))) rfl
theorem mlL_215 : Cond.methodLink RL 215 yX12_digest ∈ zTB := zin (zt8 (List.mem_of_getElem? (i := 186) (by decide +kernel))) rfl
theorem mlX0_1 : Cond.methodLink RX0 1 Lib.objectInit ∈ zTB := zin (zt1 (List.mem_of_getElem? (i := 234) (by decide +kernel))) rfl
theorem mnX0_9 : (RX0, 9, yX1_init, "HandBeasts") ∈ zNst := by decide +kernel
theorem mlX0_25 : Cond.methodLink RX0 25 yJ13_bitCount_95d88 ∈ zTB := zin (zt4 (List.mem_of_getElem? (i := 142) (by decide +kernel))) rfl
theorem mlX0_34 : Cond.methodLink RX0 34 yX0_missed ∈ zTB := zin (zt4 (List.mem_of_getElem? (i := 147) (by decide +kernel))) rfl
theorem mlX0_38 : Cond.methodLink RX0 38 yX0_over ∈ zTB := zin (zt4 (List.mem_of_getElem? (i := 148) (by decide +kernel))) rfl
theorem mnX0_45 : (RX0, 45, yX11_mix, "HandBeasts") ∈ zNst := by decide +kernel
theorem mlX0_51 : Cond.methodLink RX0 51 yX1_digestOn ∈ zTB := zin (zt6 (List.mem_of_getElem? (i := 14) (by decide +kernel))) rfl
theorem mlX1_3 : Cond.methodLink RX1 3 Lib.objectInit ∈ zTB := zin (zt1 (List.mem_of_getElem? (i := 177) (by decide +kernel))) rfl
theorem mlX1_20 : Cond.methodLink RX1 20 yJ13_bitCount_95d88 ∈ zTB := zin (zt4 (List.mem_of_getElem? (i := 57) (by decide +kernel))) rfl
theorem mlX1_26 : Cond.methodLink RX1 26 yX1_isCell ∈ zTB := zin (zt3 (List.mem_of_getElem? (i := 179) (by decide +kernel))) rfl
theorem mlX1_30 : Cond.methodLink RX1 30 yX1_addLine ∈ zTB := zin (zt3 (List.mem_of_getElem? (i := 182) (by decide +kernel))) rfl
theorem mlX1_34 : Cond.methodLink RX1 34 yX1_line ∈ zTB := zin (zt6 (List.mem_of_getElem? (i := 18) (by decide +kernel))) rfl
theorem mnX1_38 : (RX1, 38, yX11_mix, "HandBeasts") ∈ zNst := by decide +kernel
theorem mlX10_3 : Cond.methodLink RX10 3 Lib.objectInit ∈ zTB := zin (zt2 (List.mem_of_getElem? (i := 137) (by decide +kernel))) rfl
theorem mlX10_35 : Cond.methodLink RX10 35 yX6_isHeld ∈ zTB := zin (zt4 (List.mem_of_getElem? (i := 237) (by decide +kernel))) rfl
theorem mlX10_41 : Cond.methodLink RX10 41 yX6_offOf ∈ zTB := zin (zt5 (List.mem_of_getElem? (i := 30) (by decide +kernel))) rfl
theorem mlX10_45 : Cond.methodLink RX10 45 yX10_walk ∈ zTB := zin (zt5 (List.mem_of_getElem? (i := 10) (by decide +kernel))) rfl
theorem mlX10_49 : Cond.methodLink RX10 49 yX10_farOf ∈ zTB := zin (zt5 (List.mem_of_getElem? (i := 18) (by decide +kernel))) rfl
theorem mlX10_57 : Cond.methodLink RX10 57 yX10_come ∈ zTB := zin (zt5 (List.mem_of_getElem? (i := 14) (by decide +kernel))) rfl
theorem mlX10_75 : Cond.methodLink RX10 75 yX10_openHeld ∈ zTB := zin (zt5 (List.mem_of_getElem? (i := 75) (by decide +kernel))) rfl
theorem mlX10_80 : Cond.methodLink RX10 80 yX10_leastRest ∈ zTB := zin (zt5 (List.mem_of_getElem? (i := 77) (by decide +kernel))) rfl
theorem mlX10_84 : Cond.methodLink RX10 84 yX10_putInOrder ∈ zTB := zin (zt5 (List.mem_of_getElem? (i := 86) (by decide +kernel))) rfl
theorem mlX10_87 : Cond.methodLink RX10 87 yX10_restBy ∈ zTB := zin (zt5 (List.mem_of_getElem? (i := 81) (by decide +kernel))) rfl
theorem mlX10_91 : Cond.methodLink RX10 91 yJ9_min_7cf53 ∈ zTB := zin (zt5 (List.mem_of_getElem? (i := 85) (by decide +kernel))) rfl
theorem mlX10_96 : Cond.methodLink RX10 96 yX10_firstNext ∈ zTB := zin (zt5 (List.mem_of_getElem? (i := 90) (by decide +kernel))) rfl
theorem mlX11_3 : Cond.methodLink RX11 3 Lib.objectInit ∈ zTB := zin (zt1 (List.mem_of_getElem? (i := 23) (by decide +kernel))) rfl
theorem mnX11_11 : (RX11, 11, yX9_init, "HandBeasts") ∈ zNst := by decide +kernel
theorem mlX11_22 : Cond.methodLink RX11 22 yX8_init ∈ zTB := zin (zt1 (List.mem_of_getElem? (i := 57) (by decide +kernel))) rfl
theorem mnX11_30 : (RX11, 30, yX7_init, "HandBeasts") ∈ zNst := by decide +kernel
theorem mnX11_37 : (RX11, 37, yX2_init, "HandBeasts") ∈ zNst := by decide +kernel
theorem mnX11_47 : (RX11, 47, yX3_init, "HandBeasts") ∈ zNst := by decide +kernel
theorem mnX11_65 : (RX11, 65, yX5_init, "HandBeasts") ∈ zNst := by decide +kernel
theorem mnX11_72 : (RX11, 72, yX0_init, "HandBeasts") ∈ zNst := by decide +kernel
theorem mnX11_75 : (RX11, 75, yX4_init, "HandBeasts") ∈ zNst := by decide +kernel
theorem mnX11_82 : (RX11, 82, yX6_init, "HandBeasts") ∈ zNst := by decide +kernel
theorem mnX11_89 : (RX11, 89, yX10_init, "HandBeasts") ∈ zNst := by decide +kernel
theorem mnX11_96 : (RX11, 96, yX1_init, "HandBeasts") ∈ zNst := by decide +kernel
theorem mlX11_107 : Cond.methodLink RX11 107 yX11_isRow ∈ zTB := zin (zt2 (List.mem_of_getElem? (i := 230) (by decide +kernel))) rfl
theorem mlX11_111 : Cond.methodLink RX11 111 yX9_find ∈ zTB := zin (zt2 (List.mem_of_getElem? (i := 233) (by decide +kernel))) rfl
theorem mlX11_115 : Cond.methodLink RX11 115 yX8_renew ∈ zTB := zin (zt2 (List.mem_of_getElem? (i := 237) (by decide +kernel))) rfl
theorem mlX11_119 : Cond.methodLink RX11 119 yX8_isThere ∈ zTB := zin (zt3 (List.mem_of_getElem? (i := 5) (by decide +kernel))) rfl
theorem mlX11_123 : Cond.methodLink RX11 123 yX8_holds ∈ zTB := zin (zt3 (List.mem_of_getElem? (i := 9) (by decide +kernel))) rfl
theorem mlX11_126 : Cond.methodLink RX11 126 yX8_get ∈ zTB := zin (zt3 (List.mem_of_getElem? (i := 13) (by decide +kernel))) rfl
theorem mlX11_129 : Cond.methodLink RX11 129 yX8_set ∈ zTB := zin (zt3 (List.mem_of_getElem? (i := 18) (by decide +kernel))) rfl
theorem mlX11_132 : Cond.methodLink RX11 132 yX9_tell ∈ zTB := zin (zt3 (List.mem_of_getElem? (i := 22) (by decide +kernel))) rfl
theorem mlX11_135 : Cond.methodLink RX11 135 yX8_lose ∈ zTB := zin (zt3 (List.mem_of_getElem? (i := 34) (by decide +kernel))) rfl
theorem mlX11_138 : Cond.methodLink RX11 138 yX8_holdsFrom ∈ zTB := zin (zt3 (List.mem_of_getElem? (i := 42) (by decide +kernel))) rfl
theorem mlX11_142 : Cond.methodLink RX11 142 yX8_take ∈ zTB := zin (zt3 (List.mem_of_getElem? (i := 46) (by decide +kernel))) rfl
theorem mlX11_149 : Cond.methodLink RX11 149 yX8_sum ∈ zTB := zin (zt3 (List.mem_of_getElem? (i := 58) (by decide +kernel))) rfl
theorem mlX11_153 : Cond.methodLink RX11 153 yX11_isText ∈ zTB := zin (zt3 (List.mem_of_getElem? (i := 67) (by decide +kernel))) rfl
theorem mlX11_156 : Cond.methodLink RX11 156 yX7_read ∈ zTB := zin (zt3 (List.mem_of_getElem? (i := 78) (by decide +kernel))) rfl
theorem mlX11_160 : Cond.methodLink RX11 160 yX11_dropPoses ∈ zTB := zin (zt3 (List.mem_of_getElem? (i := 127) (by decide +kernel))) rfl
theorem mlX11_163 : Cond.methodLink RX11 163 yX6_learn ∈ zTB := zin (zt3 (List.mem_of_getElem? (i := 139) (by decide +kernel))) rfl
theorem mlX11_186 : Cond.methodLink RX11 186 yX11_isJoint ∈ zTB := zin (zt3 (List.mem_of_getElem? (i := 214) (by decide +kernel))) rfl
theorem mlX11_198 : Cond.methodLink RX11 198 yX11_isShift ∈ zTB := zin (zt3 (List.mem_of_getElem? (i := 226) (by decide +kernel))) rfl
theorem mlX11_201 : Cond.methodLink RX11 201 yX3_code ∈ zTB := zin (zt3 (List.mem_of_getElem? (i := 229) (by decide +kernel))) rfl
theorem mlX11_205 : Cond.methodLink RX11 205 yX3_become ∈ zTB := zin (zt3 (List.mem_of_getElem? (i := 233) (by decide +kernel))) rfl
theorem mlX11_209 : Cond.methodLink RX11 209 yX2_canTurn ∈ zTB := zin (zt4 (List.mem_of_getElem? (i := 1) (by decide +kernel))) rfl
theorem mlX11_216 : Cond.methodLink RX11 216 yX5_begin ∈ zTB := zin (zt4 (List.mem_of_getElem? (i := 6) (by decide +kernel))) rfl
theorem mlX11_220 : Cond.methodLink RX11 220 yX5_judge ∈ zTB := zin (zt4 (List.mem_of_getElem? (i := 12) (by decide +kernel))) rfl
theorem mlX11_227 : Cond.methodLink RX11 227 yX11_isPose ∈ zTB := zin (zt4 (List.mem_of_getElem? (i := 32) (by decide +kernel))) rfl
theorem mlX11_230 : Cond.methodLink RX11 230 yX5_isHeld ∈ zTB := zin (zt4 (List.mem_of_getElem? (i := 36) (by decide +kernel))) rfl
theorem mlX11_233 : Cond.methodLink RX11 233 yX11_shadowFinding ∈ zTB := zin (zt4 (List.mem_of_getElem? (i := 40) (by decide +kernel))) rfl
theorem mlX11_240 : Cond.methodLink RX11 240 yX8_showTo ∈ zTB := zin (zt4 (List.mem_of_getElem? (i := 47) (by decide +kernel))) rfl
theorem mlX11_247 : Cond.methodLink RX11 247 yX1_number ∈ zTB := zin (zt4 (List.mem_of_getElem? (i := 53) (by decide +kernel))) rfl
theorem mlX11_265 : Cond.methodLink RX11 265 yX8_showCells ∈ zTB := zin (zt4 (List.mem_of_getElem? (i := 83) (by decide +kernel))) rfl
theorem mlX11_268 : Cond.methodLink RX11 268 yX5_shadow ∈ zTB := zin (zt4 (List.mem_of_getElem? (i := 97) (by decide +kernel))) rfl
theorem mlX11_272 : Cond.methodLink RX11 272 yX11_isBeast ∈ zTB := zin (zt4 (List.mem_of_getElem? (i := 130) (by decide +kernel))) rfl
theorem mlX11_295 : Cond.methodLink RX11 295 yX0_missed ∈ zTB := zin (zt4 (List.mem_of_getElem? (i := 137) (by decide +kernel))) rfl
theorem mlX11_299 : Cond.methodLink RX11 299 yX0_offOf ∈ zTB := zin (zt4 (List.mem_of_getElem? (i := 143) (by decide +kernel))) rfl
theorem mlX11_306 : Cond.methodLink RX11 306 yX6_isHeld ∈ zTB := zin (zt4 (List.mem_of_getElem? (i := 156) (by decide +kernel))) rfl
theorem mlX11_308 : Cond.methodLink RX11 308 yX6_isBarred ∈ zTB := zin (zt4 (List.mem_of_getElem? (i := 164) (by decide +kernel))) rfl
theorem mlX11_311 : Cond.methodLink RX11 311 yX6_shade ∈ zTB := zin (zt4 (List.mem_of_getElem? (i := 169) (by decide +kernel))) rfl
theorem mlX11_315 : Cond.methodLink RX11 315 yX6_nearestTurns ∈ zTB := zin (zt4 (List.mem_of_getElem? (i := 174) (by decide +kernel))) rfl
theorem mlX11_319 : Cond.methodLink RX11 319 yX6_turnAt ∈ zTB := zin (zt4 (List.mem_of_getElem? (i := 188) (by decide +kernel))) rfl
theorem mlX11_323 : Cond.methodLink RX11 323 yX6_offOf ∈ zTB := zin (zt4 (List.mem_of_getElem? (i := 189) (by decide +kernel))) rfl
theorem mlX11_326 : Cond.methodLink RX11 326 yX6_joinDark ∈ zTB := zin (zt4 (List.mem_of_getElem? (i := 194) (by decide +kernel))) rfl
theorem mlX11_330 : Cond.methodLink RX11 330 yX3_throwCells ∈ zTB := zin (zt4 (List.mem_of_getElem? (i := 199) (by decide +kernel))) rfl
theorem mlX11_334 : Cond.methodLink RX11 334 yX1_become ∈ zTB := zin (zt4 (List.mem_of_getElem? (i := 200) (by decide +kernel))) rfl
theorem mlX11_336 : Cond.methodLink RX11 336 yX1_leave ∈ zTB := zin (zt4 (List.mem_of_getElem? (i := 204) (by decide +kernel))) rfl
theorem mlX11_339 : Cond.methodLink RX11 339 yX6_alikeJoints ∈ zTB := zin (zt4 (List.mem_of_getElem? (i := 213) (by decide +kernel))) rfl
theorem mlX11_343 : Cond.methodLink RX11 343 yX6_numberThrowing ∈ zTB := zin (zt4 (List.mem_of_getElem? (i := 225) (by decide +kernel))) rfl
theorem mlX11_347 : Cond.methodLink RX11 347 yX10_openHeld ∈ zTB := zin (zt4 (List.mem_of_getElem? (i := 233) (by decide +kernel))) rfl
theorem mlX11_351 : Cond.methodLink RX11 351 yX11_placeOf ∈ zTB := zin (zt4 (List.mem_of_getElem? (i := 238) (by decide +kernel))) rfl
theorem mlX11_354 : Cond.methodLink RX11 354 yX10_length ∈ zTB := zin (zt5 (List.mem_of_getElem? (i := 6) (by decide +kernel))) rfl
theorem mlX11_357 : Cond.methodLink RX11 357 yX10_closeSeen ∈ zTB := zin (zt5 (List.mem_of_getElem? (i := 26) (by decide +kernel))) rfl
theorem mlX11_361 : Cond.methodLink RX11 361 yX3_becomeNumber ∈ zTB := zin (zt5 (List.mem_of_getElem? (i := 35) (by decide +kernel))) rfl
theorem mlX11_364 : Cond.methodLink RX11 364 yX11_numberThrowingBy ∈ zTB := zin (zt5 (List.mem_of_getElem? (i := 44) (by decide +kernel))) rfl
theorem mlX11_368 : Cond.methodLink RX11 368 yJ6_bitCount_0f7a4 ∈ zTB := zin (zt5 (List.mem_of_getElem? (i := 57) (by decide +kernel))) rfl
theorem mlX11_373 : Cond.methodLink RX11 373 yX10_beginOrder ∈ zTB := zin (zt5 (List.mem_of_getElem? (i := 63) (by decide +kernel))) rfl
theorem mlX11_376 : Cond.methodLink RX11 376 yX10_addStop ∈ zTB := zin (zt5 (List.mem_of_getElem? (i := 67) (by decide +kernel))) rfl
theorem mlX11_379 : Cond.methodLink RX11 379 yX10_orderStops ∈ zTB := zin (zt5 (List.mem_of_getElem? (i := 71) (by decide +kernel))) rfl
theorem mlX11_392 : Cond.methodLink RX11 392 yX6_combine ∈ zTB := zin (zt5 (List.mem_of_getElem? (i := 98) (by decide +kernel))) rfl
theorem mlX11_396 : Cond.methodLink RX11 396 yX6_leastOff ∈ zTB := zin (zt5 (List.mem_of_getElem? (i := 99) (by decide +kernel))) rfl
theorem mlX11_399 : Cond.methodLink RX11 399 yJ9_min_7cf53 ∈ zTB := zin (zt5 (List.mem_of_getElem? (i := 104) (by decide +kernel))) rfl
theorem mlX11_405 : Cond.methodLink RX11 405 yX11_isWeight ∈ zTB := zin (zt5 (List.mem_of_getElem? (i := 113) (by decide +kernel))) rfl
theorem mlX11_410 : Cond.methodLink RX11 410 yX4_add ∈ zTB := zin (zt5 (List.mem_of_getElem? (i := 116) (by decide +kernel))) rfl
theorem mlX11_414 : Cond.methodLink RX11 414 yX11_isLooker ∈ zTB := zin (zt5 (List.mem_of_getElem? (i := 124) (by decide +kernel))) rfl
theorem mlX11_424 : Cond.methodLink RX11 424 yX4_addCall ∈ zTB := zin (zt5 (List.mem_of_getElem? (i := 132) (by decide +kernel))) rfl
theorem mlX11_427 : Cond.methodLink RX11 427 yX11_guessed ∈ zTB := zin (zt5 (List.mem_of_getElem? (i := 140) (by decide +kernel))) rfl
theorem mlX11_442 : Cond.methodLink RX11 442 yX4_beginFit ∈ zTB := zin (zt5 (List.mem_of_getElem? (i := 166) (by decide +kernel))) rfl
theorem mlX11_445 : Cond.methodLink RX11 445 yX11_look ∈ zTB := zin (zt5 (List.mem_of_getElem? (i := 144) (by decide +kernel))) rfl
theorem mlX11_448 : Cond.methodLink RX11 448 yX4_tryFits ∈ zTB := zin (zt5 (List.mem_of_getElem? (i := 170) (by decide +kernel))) rfl
theorem mlX11_452 : Cond.methodLink RX11 452 yX4_bestFit ∈ zTB := zin (zt5 (List.mem_of_getElem? (i := 175) (by decide +kernel))) rfl
theorem mlX11_458 : Cond.methodLink RX11 458 yX4_fitCode ∈ zTB := zin (zt5 (List.mem_of_getElem? (i := 179) (by decide +kernel))) rfl
theorem mlX11_461 : Cond.methodLink RX11 461 yX4_callsOf ∈ zTB := zin (zt5 (List.mem_of_getElem? (i := 186) (by decide +kernel))) rfl
theorem mlX11_464 : Cond.methodLink RX11 464 yX9_share ∈ zTB := zin (zt5 (List.mem_of_getElem? (i := 190) (by decide +kernel))) rfl
theorem mlX11_476 : Cond.methodLink RX11 476 yX11_heldPoses ∈ zTB := zin (zt5 (List.mem_of_getElem? (i := 210) (by decide +kernel))) rfl
theorem mlX11_479 : Cond.methodLink RX11 479 yX11_beastsThere ∈ zTB := zin (zt5 (List.mem_of_getElem? (i := 214) (by decide +kernel))) rfl
theorem mlX11_482 : Cond.methodLink RX11 482 yX11_there ∈ zTB := zin (zt5 (List.mem_of_getElem? (i := 218) (by decide +kernel))) rfl
theorem mlX11_493 : Cond.methodLink RX11 493 yX11_count ∈ zTB := zin (zt5 (List.mem_of_getElem? (i := 234) (by decide +kernel))) rfl
theorem mlX11_496 : Cond.methodLink RX11 496 yX11_mix ∈ zTB := zin (zt5 (List.mem_of_getElem? (i := 235) (by decide +kernel))) rfl
theorem mlX11_500 : Cond.methodLink RX11 500 yX2_digestOn ∈ zTB := zin (zt5 (List.mem_of_getElem? (i := 239) (by decide +kernel))) rfl
theorem mlX11_504 : Cond.methodLink RX11 504 yX5_digestOn ∈ zTB := zin (zt6 (List.mem_of_getElem? (i := 4) (by decide +kernel))) rfl
theorem mlX11_507 : Cond.methodLink RX11 507 yX0_digestOn ∈ zTB := zin (zt6 (List.mem_of_getElem? (i := 9) (by decide +kernel))) rfl
theorem mlX11_508 : Cond.methodLink RX11 508 yX4_digestOn ∈ zTB := zin (zt6 (List.mem_of_getElem? (i := 20) (by decide +kernel))) rfl
theorem mlX11_509 : Cond.methodLink RX11 509 yX8_digestOn ∈ zTB := zin (zt6 (List.mem_of_getElem? (i := 25) (by decide +kernel))) rfl
theorem mlX11_510 : Cond.methodLink RX11 510 yX8_hasLines ∈ zTB := zin (zt4 (List.mem_of_getElem? (i := 43) (by decide +kernel))) rfl
theorem mlX11_513 : Cond.methodLink RX11 513 yX4_dropCalls ∈ zTB := zin (zt3 (List.mem_of_getElem? (i := 131) (by decide +kernel))) rfl
theorem mlX11_516 : Cond.methodLink RX11 516 yX6_placeOf ∈ zTB := zin (zt5 (List.mem_of_getElem? (i := 2) (by decide +kernel))) rfl
theorem mlX11_519 : Cond.methodLink RX11 519 yX2_wristCells ∈ zTB := zin (zt5 (List.mem_of_getElem? (i := 48) (by decide +kernel))) rfl
theorem mlX11_523 : Cond.methodLink RX11 523 yX1_has ∈ zTB := zin (zt5 (List.mem_of_getElem? (i := 49) (by decide +kernel))) rfl
theorem mlX11_527 : Cond.methodLink RX11 527 yX4_measure ∈ zTB := zin (zt5 (List.mem_of_getElem? (i := 148) (by decide +kernel))) rfl
theorem mlX11_531 : Cond.methodLink RX11 531 yX4_guessBy ∈ zTB := zin (zt5 (List.mem_of_getElem? (i := 154) (by decide +kernel))) rfl
theorem mlX12_1 : Cond.methodLink RX12 1 Lib.objectInit ∈ zTB := zin (zt6 (List.mem_of_getElem? (i := 35) (by decide +kernel))) rfl
theorem mlX12_131 : Cond.methodLink RX12 131 yX12_in ∈ zTB := zin (zt6 (List.mem_of_getElem? (i := 223) (by decide +kernel))) rfl
theorem mlX12_141 : Cond.methodLink RX12 141 yX12_isRow ∈ zTB := zin (zt7 (List.mem_of_getElem? (i := 2) (by decide +kernel))) rfl
theorem mlX12_145 : Cond.methodLink RX12 145 yX12_meets ∈ zTB := zin (zt7 (List.mem_of_getElem? (i := 5) (by decide +kernel))) rfl
theorem mlX12_149 : Cond.methodLink RX12 149 yX12_rowAt ∈ zTB := zin (zt7 (List.mem_of_getElem? (i := 13) (by decide +kernel))) rfl
theorem mlX12_153 : Cond.methodLink RX12 153 yX12_tells ∈ zTB := zin (zt7 (List.mem_of_getElem? (i := 17) (by decide +kernel))) rfl
theorem mlX12_156 : Cond.methodLink RX12 156 yX12_isText ∈ zTB := zin (zt7 (List.mem_of_getElem? (i := 41) (by decide +kernel))) rfl
theorem mlX12_162 : Cond.methodLink RX12 162 yX12_byteAt ∈ zTB := zin (zt7 (List.mem_of_getElem? (i := 56) (by decide +kernel))) rfl
theorem mlX12_171 : Cond.methodLink RX12 171 yX12_isFigure ∈ zTB := zin (zt7 (List.mem_of_getElem? (i := 64) (by decide +kernel))) rfl
theorem mlX12_177 : Cond.methodLink RX12 177 yX12_figure ∈ zTB := zin (zt7 (List.mem_of_getElem? (i := 72) (by decide +kernel))) rfl
theorem mlX12_184 : Cond.methodLink RX12 184 yX12_readsHand ∈ zTB := zin (zt7 (List.mem_of_getElem? (i := 60) (by decide +kernel))) rfl
theorem mlX12_187 : Cond.methodLink RX12 187 yX12_readsFinger ∈ zTB := zin (zt7 (List.mem_of_getElem? (i := 68) (by decide +kernel))) rfl
theorem mlX12_190 : Cond.methodLink RX12 190 yX12_faultOf ∈ zTB := zin (zt7 (List.mem_of_getElem? (i := 52) (by decide +kernel))) rfl
theorem mlX12_208 : Cond.methodLink RX12 208 yX12_isJoint ∈ zTB := zin (zt7 (List.mem_of_getElem? (i := 88) (by decide +kernel))) rfl
theorem mlX12_217 : Cond.methodLink RX12 217 yX12_lampNow ∈ zTB := zin (zt7 (List.mem_of_getElem? (i := 100) (by decide +kernel))) rfl
theorem mlX12_221 : Cond.methodLink RX12 221 yX12_layLamp ∈ zTB := zin (zt7 (List.mem_of_getElem? (i := 104) (by decide +kernel))) rfl
theorem mlX12_228 : Cond.methodLink RX12 228 yX12_point ∈ zTB := zin (zt7 (List.mem_of_getElem? (i := 128) (by decide +kernel))) rfl
theorem mlX12_232 : Cond.methodLink RX12 232 yX12_layFinger ∈ zTB := zin (zt7 (List.mem_of_getElem? (i := 132) (by decide +kernel))) rfl
theorem mlX12_236 : Cond.methodLink RX12 236 yX12_wayX ∈ zTB := zin (zt7 (List.mem_of_getElem? (i := 136) (by decide +kernel))) rfl
theorem mlX12_239 : Cond.methodLink RX12 239 yX12_wayY ∈ zTB := zin (zt7 (List.mem_of_getElem? (i := 139) (by decide +kernel))) rfl
theorem mlX12_242 : Cond.methodLink RX12 242 yX12_isOn ∈ zTB := zin (zt7 (List.mem_of_getElem? (i := 150) (by decide +kernel))) rfl
theorem mlX12_245 : Cond.methodLink RX12 245 yX12_wrongMany ∈ zTB := zin (zt7 (List.mem_of_getElem? (i := 146) (by decide +kernel))) rfl
theorem mlX12_248 : Cond.methodLink RX12 248 yX12_turned ∈ zTB := zin (zt7 (List.mem_of_getElem? (i := 153) (by decide +kernel))) rfl
theorem mlX12_251 : Cond.methodLink RX12 251 yX12_most ∈ zTB := zin (zt7 (List.mem_of_getElem? (i := 116) (by decide +kernel))) rfl
theorem mlX12_254 : Cond.methodLink RX12 254 yX12_least ∈ zTB := zin (zt7 (List.mem_of_getElem? (i := 112) (by decide +kernel))) rfl
theorem mlX12_257 : Cond.methodLink RX12 257 yX12_layTurns ∈ zTB := zin (zt8 (List.mem_of_getElem? (i := 38) (by decide +kernel))) rfl
theorem mlX12_260 : Cond.methodLink RX12 260 yX12_layPoints ∈ zTB := zin (zt7 (List.mem_of_getElem? (i := 124) (by decide +kernel))) rfl
theorem mlX12_263 : Cond.methodLink RX12 263 yX12_kindNow ∈ zTB := zin (zt7 (List.mem_of_getElem? (i := 142) (by decide +kernel))) rfl
theorem mlX12_266 : Cond.methodLink RX12 266 yX12_bits ∈ zTB := zin (zt7 (List.mem_of_getElem? (i := 184) (by decide +kernel))) rfl
theorem mlX12_269 : Cond.methodLink RX12 269 yX12_layBright ∈ zTB := zin (zt7 (List.mem_of_getElem? (i := 215) (by decide +kernel))) rfl
theorem mlX12_272 : Cond.methodLink RX12 272 yX12_darken ∈ zTB := zin (zt7 (List.mem_of_getElem? (i := 219) (by decide +kernel))) rfl
theorem mlX12_275 : Cond.methodLink RX12 275 yX12_clear ∈ zTB := zin (zt7 (List.mem_of_getElem? (i := 227) (by decide +kernel))) rfl
theorem mlX12_278 : Cond.methodLink RX12 278 yX12_darkMany ∈ zTB := zin (zt7 (List.mem_of_getElem? (i := 231) (by decide +kernel))) rfl
theorem mlX12_281 : Cond.methodLink RX12 281 yX12_kind ∈ zTB := zin (zt7 (List.mem_of_getElem? (i := 172) (by decide +kernel))) rfl
theorem mlX12_284 : Cond.methodLink RX12 284 yX12_layPose ∈ zTB := zin (zt7 (List.mem_of_getElem? (i := 120) (by decide +kernel))) rfl
theorem mlX12_287 : Cond.methodLink RX12 287 yX12_greater ∈ zTB := zin (zt7 (List.mem_of_getElem? (i := 157) (by decide +kernel))) rfl
theorem mlX12_290 : Cond.methodLink RX12 290 yX12_isPose ∈ zTB := zin (zt7 (List.mem_of_getElem? (i := 164) (by decide +kernel))) rfl
theorem mlX12_293 : Cond.methodLink RX12 293 yX12_isHeldPose ∈ zTB := zin (zt7 (List.mem_of_getElem? (i := 168) (by decide +kernel))) rfl
theorem mlX12_296 : Cond.methodLink RX12 296 yX12_needShadow ∈ zTB := zin (zt7 (List.mem_of_getElem? (i := 176) (by decide +kernel))) rfl
theorem mlX12_299 : Cond.methodLink RX12 299 yX12_cardMany ∈ zTB := zin (zt7 (List.mem_of_getElem? (i := 180) (by decide +kernel))) rfl
theorem mlX12_302 : Cond.methodLink RX12 302 yX12_aboutPose ∈ zTB := zin (zt7 (List.mem_of_getElem? (i := 195) (by decide +kernel))) rfl
theorem mlX12_305 : Cond.methodLink RX12 305 yX12_layShape ∈ zTB := zin (zt7 (List.mem_of_getElem? (i := 211) (by decide +kernel))) rfl
theorem mlX12_308 : Cond.methodLink RX12 308 yX12_toRow ∈ zTB := zin (zt7 (List.mem_of_getElem? (i := 223) (by decide +kernel))) rfl
theorem mlX12_311 : Cond.methodLink RX12 311 yX12_layThrown ∈ zTB := zin (zt8 (List.mem_of_getElem? (i := 3) (by decide +kernel))) rfl
theorem mlX12_314 : Cond.methodLink RX12 314 yX12_throwPose ∈ zTB := zin (zt7 (List.mem_of_getElem? (i := 239) (by decide +kernel))) rfl
theorem mlX12_317 : Cond.methodLink RX12 317 yX12_isBeast ∈ zTB := zin (zt8 (List.mem_of_getElem? (i := 11) (by decide +kernel))) rfl
theorem mlX12_320 : Cond.methodLink RX12 320 yX12_missedBy ∈ zTB := zin (zt8 (List.mem_of_getElem? (i := 18) (by decide +kernel))) rfl
theorem mlX12_323 : Cond.methodLink RX12 323 yX12_overBy ∈ zTB := zin (zt8 (List.mem_of_getElem? (i := 26) (by decide +kernel))) rfl
theorem mlX12_326 : Cond.methodLink RX12 326 yX12_offBy ∈ zTB := zin (zt8 (List.mem_of_getElem? (i := 22) (by decide +kernel))) rfl
theorem mlX12_329 : Cond.methodLink RX12 329 yX12_turnsMany ∈ zTB := zin (zt8 (List.mem_of_getElem? (i := 34) (by decide +kernel))) rfl
theorem mlX12_332 : Cond.methodLink RX12 332 yX12_isHeld ∈ zTB := zin (zt8 (List.mem_of_getElem? (i := 54) (by decide +kernel))) rfl
theorem mlX12_338 : Cond.methodLink RX12 338 yX12_needBeast ∈ zTB := zin (zt8 (List.mem_of_getElem? (i := 46) (by decide +kernel))) rfl
theorem mlX12_342 : Cond.methodLink RX12 342 yX12_leastOff ∈ zTB := zin (zt8 (List.mem_of_getElem? (i := 50) (by decide +kernel))) rfl
theorem mlX12_346 : Cond.methodLink RX12 346 yX12_isWanted ∈ zTB := zin (zt8 (List.mem_of_getElem? (i := 74) (by decide +kernel))) rfl
theorem mlX12_350 : Cond.methodLink RX12 350 yX12_layWanted ∈ zTB := zin (zt8 (List.mem_of_getElem? (i := 66) (by decide +kernel))) rfl
theorem mlX12_353 : Cond.methodLink RX12 353 yX12_throwMany ∈ zTB := zin (zt8 (List.mem_of_getElem? (i := 70) (by decide +kernel))) rfl
theorem mlX12_356 : Cond.methodLink RX12 356 yX12_codeNow ∈ zTB := zin (zt8 (List.mem_of_getElem? (i := 90) (by decide +kernel))) rfl
theorem mlX12_359 : Cond.methodLink RX12 359 yX12_layOpen ∈ zTB := zin (zt8 (List.mem_of_getElem? (i := 82) (by decide +kernel))) rfl
theorem mlX12_362 : Cond.methodLink RX12 362 yX12_codeOf ∈ zTB := zin (zt8 (List.mem_of_getElem? (i := 86) (by decide +kernel))) rfl
theorem mlX12_365 : Cond.methodLink RX12 365 yX12_wayBetween ∈ zTB := zin (zt8 (List.mem_of_getElem? (i := 94) (by decide +kernel))) rfl
theorem mlX12_372 : Cond.methodLink RX12 372 yX12_has ∈ zTB := zin (zt8 (List.mem_of_getElem? (i := 114) (by decide +kernel))) rfl
theorem mlX12_375 : Cond.methodLink RX12 375 yX12_layToCome ∈ zTB := zin (zt8 (List.mem_of_getElem? (i := 117) (by decide +kernel))) rfl
theorem mlX12_378 : Cond.methodLink RX12 378 yX12_orderTold ∈ zTB := zin (zt8 (List.mem_of_getElem? (i := 122) (by decide +kernel))) rfl
theorem mlX12_384 : Cond.methodLink RX12 384 yX12_isLooker ∈ zTB := zin (zt8 (List.mem_of_getElem? (i := 142) (by decide +kernel))) rfl
theorem mlX12_390 : Cond.methodLink RX12 390 yX12_guessOf ∈ zTB := zin (zt8 (List.mem_of_getElem? (i := 154) (by decide +kernel))) rfl
theorem mlX12_394 : Cond.methodLink RX12 394 yX12_agreesBy ∈ zTB := zin (zt8 (List.mem_of_getElem? (i := 162) (by decide +kernel))) rfl
theorem mlX12_397 : Cond.methodLink RX12 397 yX12_fraction ∈ zTB := zin (zt8 (List.mem_of_getElem? (i := 174) (by decide +kernel))) rfl
theorem mlX12_401 : Cond.methodLink RX12 401 yX12_counted ∈ zTB := zin (zt8 (List.mem_of_getElem? (i := 182) (by decide +kernel))) rfl
theorem mlX12_409 : Cond.methodLink RX12 409 yX12_mix ∈ zTB := zin (zt8 (List.mem_of_getElem? (i := 191) (by decide +kernel))) rfl
theorem mlX12_417 : Cond.methodLink RX12 417 yX12_mixHands ∈ zTB := zin (zt8 (List.mem_of_getElem? (i := 196) (by decide +kernel))) rfl
theorem mlX12_420 : Cond.methodLink RX12 420 yX12_mixBeasts ∈ zTB := zin (zt8 (List.mem_of_getElem? (i := 200) (by decide +kernel))) rfl
theorem mlX2_3 : Cond.methodLink RX2 3 Lib.objectInit ∈ zTB := zin (zt1 (List.mem_of_getElem? (i := 94) (by decide +kernel))) rfl
theorem mlX2_46 : Cond.methodLink RX2 46 yJ9_max_7cf53 ∈ zTB := zin (zt3 (List.mem_of_getElem? (i := 147) (by decide +kernel))) rfl
theorem mlX2_52 : Cond.methodLink RX2 52 yX8_get ∈ zTB := zin (zt4 (List.mem_of_getElem? (i := 5) (by decide +kernel))) rfl
theorem mlX2_58 : Cond.methodLink RX2 58 yX2_span ∈ zTB := zin (zt3 (List.mem_of_getElem? (i := 159) (by decide +kernel))) rfl
theorem mlX2_61 : Cond.methodLink RX2 61 yJ9_abs_0f7a4 ∈ zTB := zin (zt3 (List.mem_of_getElem? (i := 160) (by decide +kernel))) rfl
theorem mlX2_64 : Cond.methodLink RX2 64 yX1_clear ∈ zTB := zin (zt3 (List.mem_of_getElem? (i := 194) (by decide +kernel))) rfl
theorem mlX2_69 : Cond.methodLink RX2 69 yX1_addNew ∈ zTB := zin (zt3 (List.mem_of_getElem? (i := 175) (by decide +kernel))) rfl
theorem mlX2_79 : Cond.methodLink RX2 79 yX2_wristCells ∈ zTB := zin (zt4 (List.mem_of_getElem? (i := 25) (by decide +kernel))) rfl
theorem mlX2_83 : Cond.methodLink RX2 83 yX2_fingerCells ∈ zTB := zin (zt4 (List.mem_of_getElem? (i := 26) (by decide +kernel))) rfl
theorem mnX2_87 : (RX2, 87, yX11_mix, "HandBeasts") ∈ zNst := by decide +kernel
theorem mlX3_3 : Cond.methodLink RX3 3 Lib.objectInit ∈ zTB := zin (zt1 (List.mem_of_getElem? (i := 154) (by decide +kernel))) rfl
theorem mlX3_21 : Cond.methodLink RX3 21 yX3_become ∈ zTB := zin (zt5 (List.mem_of_getElem? (i := 39) (by decide +kernel))) rfl
theorem mlX3_25 : Cond.methodLink RX3 25 yX1_clear ∈ zTB := zin (zt4 (List.mem_of_getElem? (i := 105) (by decide +kernel))) rfl
theorem mlX3_30 : Cond.methodLink RX3 30 yX3_throwHalf ∈ zTB := zin (zt4 (List.mem_of_getElem? (i := 106) (by decide +kernel))) rfl
theorem mlX3_34 : Cond.methodLink RX3 34 yJ13_numberOfTrailingZeros_95d88 ∈ zTB := zin (zt4 (List.mem_of_getElem? (i := 110) (by decide +kernel))) rfl
theorem mlX3_40 : Cond.methodLink RX3 40 yX3_throwCell ∈ zTB := zin (zt4 (List.mem_of_getElem? (i := 117) (by decide +kernel))) rfl
theorem mlX3_44 : Cond.methodLink RX3 44 yX1_addLine ∈ zTB := zin (zt4 (List.mem_of_getElem? (i := 121) (by decide +kernel))) rfl
theorem mlX4_3 : Cond.methodLink RX4 3 Lib.objectInit ∈ zTB := zin (zt2 (List.mem_of_getElem? (i := 21) (by decide +kernel))) rfl
theorem mlX4_45 : Cond.methodLink RX4 45 yX4_setCall ∈ zTB := zin (zt3 (List.mem_of_getElem? (i := 135) (by decide +kernel))) rfl
theorem mlX4_58 : Cond.methodLink RX4 58 yX0_missed ∈ zTB := zin (zt5 (List.mem_of_getElem? (i := 152) (by decide +kernel))) rfl
theorem mlX4_63 : Cond.methodLink RX4 63 yX0_over ∈ zTB := zin (zt5 (List.mem_of_getElem? (i := 153) (by decide +kernel))) rfl
theorem mlX4_75 : Cond.methodLink RX4 75 yX4_guessBy ∈ zTB := zin (zt5 (List.mem_of_getElem? (i := 174) (by decide +kernel))) rfl
theorem mnX4_79 : (RX4, 79, yX11_mix, "HandBeasts") ∈ zNst := by decide +kernel
theorem mlX5_3 : Cond.methodLink RX5 3 Lib.objectInit ∈ zTB := zin (zt1 (List.mem_of_getElem? (i := 171) (by decide +kernel))) rfl
theorem mnX5_17 : (RX5, 17, yX1_init, "HandBeasts") ∈ zNst := by decide +kernel
theorem mlX5_25 : Cond.methodLink RX5 25 yX8_get ∈ zTB := zin (zt4 (List.mem_of_getElem? (i := 10) (by decide +kernel))) rfl
theorem mlX5_35 : Cond.methodLink RX5 35 yX1_clear ∈ zTB := zin (zt4 (List.mem_of_getElem? (i := 11) (by decide +kernel))) rfl
theorem mlX5_38 : Cond.methodLink RX5 38 yX5_weigh ∈ zTB := zin (zt4 (List.mem_of_getElem? (i := 16) (by decide +kernel))) rfl
theorem mlX5_45 : Cond.methodLink RX5 45 yX2_allCells ∈ zTB := zin (zt4 (List.mem_of_getElem? (i := 21) (by decide +kernel))) rfl
theorem mlX5_54 : Cond.methodLink RX5 54 yJ9_max_7cf53 ∈ zTB := zin (zt4 (List.mem_of_getElem? (i := 27) (by decide +kernel))) rfl
theorem mlX5_66 : Cond.methodLink RX5 66 yJ9_abs_0f7a4 ∈ zTB := zin (zt4 (List.mem_of_getElem? (i := 20) (by decide +kernel))) rfl
theorem mlX5_76 : Cond.methodLink RX5 76 yX3_throwCells ∈ zTB := zin (zt4 (List.mem_of_getElem? (i := 101) (by decide +kernel))) rfl
theorem mlX5_82 : Cond.methodLink RX5 82 yX1_join ∈ zTB := zin (zt4 (List.mem_of_getElem? (i := 122) (by decide +kernel))) rfl
theorem mnX5_86 : (RX5, 86, yX11_mix, "HandBeasts") ∈ zNst := by decide +kernel
theorem mlX6_3 : Cond.methodLink RX6 3 Lib.objectInit ∈ zTB := zin (zt2 (List.mem_of_getElem? (i := 71) (by decide +kernel))) rfl
theorem mnX6_62 : (RX6, 62, yX1_init, "HandBeasts") ∈ zNst := by decide +kernel
theorem mlX6_72 : Cond.methodLink RX6 72 yX2_span ∈ zTB := zin (zt3 (List.mem_of_getElem? (i := 143) (by decide +kernel))) rfl
theorem mlX6_78 : Cond.methodLink RX6 78 yX6_learnFinger ∈ zTB := zin (zt3 (List.mem_of_getElem? (i := 148) (by decide +kernel))) rfl
theorem mlX6_86 : Cond.methodLink RX6 86 yX6_combine ∈ zTB := zin (zt3 (List.mem_of_getElem? (i := 186) (by decide +kernel))) rfl
theorem mlX6_95 : Cond.methodLink RX6 95 yJ9_min_7cf53 ∈ zTB := zin (zt3 (List.mem_of_getElem? (i := 152) (by decide +kernel))) rfl
theorem mlX6_101 : Cond.methodLink RX6 101 yX2_turnFinger ∈ zTB := zin (zt3 (List.mem_of_getElem? (i := 155) (by decide +kernel))) rfl
theorem mlX6_105 : Cond.methodLink RX6 105 yX1_clear ∈ zTB := zin (zt3 (List.mem_of_getElem? (i := 163) (by decide +kernel))) rfl
theorem mlX6_108 : Cond.methodLink RX6 108 yX2_fingerCells ∈ zTB := zin (zt3 (List.mem_of_getElem? (i := 167) (by decide +kernel))) rfl
theorem mlX6_117 : Cond.methodLink RX6 117 yX2_wristCells ∈ zTB := zin (zt3 (List.mem_of_getElem? (i := 190) (by decide +kernel))) rfl
theorem mlX6_124 : Cond.methodLink RX6 124 yX6_joinLoads ∈ zTB := zin (zt3 (List.mem_of_getElem? (i := 195) (by decide +kernel))) rfl
theorem mlX6_128 : Cond.methodLink RX6 128 yX6_join ∈ zTB := zin (zt3 (List.mem_of_getElem? (i := 203) (by decide +kernel))) rfl
theorem mlX6_132 : Cond.methodLink RX6 132 yX3_throwCells ∈ zTB := zin (zt4 (List.mem_of_getElem? (i := 173) (by decide +kernel))) rfl
theorem mlX6_138 : Cond.methodLink RX6 138 yX6_joinedLoad ∈ zTB := zin (zt3 (List.mem_of_getElem? (i := 199) (by decide +kernel))) rfl
theorem mlX6_142 : Cond.methodLink RX6 142 yX6_isBarred ∈ zTB := zin (zt4 (List.mem_of_getElem? (i := 160) (by decide +kernel))) rfl
theorem mlX6_149 : Cond.methodLink RX6 149 yX0_offOf ∈ zTB := zin (zt4 (List.mem_of_getElem? (i := 187) (by decide +kernel))) rfl
theorem mlX6_155 : Cond.methodLink RX6 155 yX6_isHeld ∈ zTB := zin (zt4 (List.mem_of_getElem? (i := 178) (by decide +kernel))) rfl
theorem mlX6_159 : Cond.methodLink RX6 159 yX6_turnAt ∈ zTB := zin (zt4 (List.mem_of_getElem? (i := 179) (by decide +kernel))) rfl
theorem mlX6_163 : Cond.methodLink RX6 163 yX6_offOf ∈ zTB := zin (zt4 (List.mem_of_getElem? (i := 183) (by decide +kernel))) rfl
theorem mlX6_166 : Cond.methodLink RX6 166 yX6_nearestTurns ∈ zTB := zin (zt5 (List.mem_of_getElem? (i := 103) (by decide +kernel))) rfl
theorem mlX6_170 : Cond.methodLink RX6 170 yX1_join ∈ zTB := zin (zt4 (List.mem_of_getElem? (i := 198) (by decide +kernel))) rfl
theorem mlX6_173 : Cond.methodLink RX6 173 yX1_is ∈ zTB := zin (zt4 (List.mem_of_getElem? (i := 221) (by decide +kernel))) rfl
theorem mlX6_177 : Cond.methodLink RX6 177 yX6_throwsJust ∈ zTB := zin (zt4 (List.mem_of_getElem? (i := 217) (by decide +kernel))) rfl
theorem mlX7_3 : Cond.methodLink RX7 3 Lib.objectInit ∈ zTB := zin (zt1 (List.mem_of_getElem? (i := 78) (by decide +kernel))) rfl
theorem mlX7_23 : Cond.methodLink RX7 23 yX2_clear ∈ zTB := zin (zt3 (List.mem_of_getElem? (i := 82) (by decide +kernel))) rfl
theorem mlX7_33 : Cond.methodLink RX7 33 yX7_readOne ∈ zTB := zin (zt3 (List.mem_of_getElem? (i := 86) (by decide +kernel))) rfl
theorem mlX7_37 : Cond.methodLink RX7 37 yX8_get ∈ zTB := zin (zt3 (List.mem_of_getElem? (i := 90) (by decide +kernel))) rfl
theorem mlX7_41 : Cond.methodLink RX7 41 yX7_readHand ∈ zTB := zin (zt3 (List.mem_of_getElem? (i := 91) (by decide +kernel))) rfl
theorem mlX7_44 : Cond.methodLink RX7 44 yX7_readFinger ∈ zTB := zin (zt3 (List.mem_of_getElem? (i := 104) (by decide +kernel))) rfl
theorem mlX7_50 : Cond.methodLink RX7 50 yX7_figure ∈ zTB := zin (zt3 (List.mem_of_getElem? (i := 95) (by decide +kernel))) rfl
theorem mlX7_54 : Cond.methodLink RX7 54 yX2_addHand ∈ zTB := zin (zt3 (List.mem_of_getElem? (i := 100) (by decide +kernel))) rfl
theorem mlX7_61 : Cond.methodLink RX7 61 yX2_addFinger ∈ zTB := zin (zt3 (List.mem_of_getElem? (i := 108) (by decide +kernel))) rfl
theorem mlX7_64 : Cond.methodLink RX7 64 yX7_readJoint ∈ zTB := zin (zt3 (List.mem_of_getElem? (i := 112) (by decide +kernel))) rfl
theorem mlX7_70 : Cond.methodLink RX7 70 yX7_isTurn ∈ zTB := zin (zt3 (List.mem_of_getElem? (i := 116) (by decide +kernel))) rfl
theorem mlX7_73 : Cond.methodLink RX7 73 yX2_addJoint ∈ zTB := zin (zt3 (List.mem_of_getElem? (i := 119) (by decide +kernel))) rfl
theorem mlX7_77 : Cond.methodLink RX7 77 yX8_holds ∈ zTB := zin (zt3 (List.mem_of_getElem? (i := 99) (by decide +kernel))) rfl
theorem mlX8_3 : Cond.methodLink RX8 3 Lib.objectInit ∈ zTB := zin (zt1 (List.mem_of_getElem? (i := 60) (by decide +kernel))) rfl
theorem mlX8_15 : Cond.methodLink RX8 15 yJ9_max_7cf53 ∈ zTB := zin (zt1 (List.mem_of_getElem? (i := 61) (by decide +kernel))) rfl
theorem mlX8_25 : Cond.methodLink RX8 25 yX8_holds ∈ zTB := zin (zt3 (List.mem_of_getElem? (i := 17) (by decide +kernel))) rfl
theorem mlX8_29 : Cond.methodLink RX8 29 yX8_holdsFrom ∈ zTB := zin (zt3 (List.mem_of_getElem? (i := 50) (by decide +kernel))) rfl
theorem mlX8_33 : Cond.methodLink RX8 33 arraycopyName ∈ zTB := zin (zt3 (List.mem_of_getElem? (i := 51) (by decide +kernel))) rfl
theorem mlX8_39 : Cond.methodLink RX8 39 yX8_get ∈ zTB := zin (zt3 (List.mem_of_getElem? (i := 62) (by decide +kernel))) rfl
theorem mlX8_43 : Cond.methodLink RX8 43 yX8_renew ∈ zTB := zin (zt4 (List.mem_of_getElem? (i := 87) (by decide +kernel))) rfl
theorem mlX8_47 : Cond.methodLink RX8 47 yX1_line ∈ zTB := zin (zt4 (List.mem_of_getElem? (i := 88) (by decide +kernel))) rfl
theorem mlX8_52 : Cond.methodLink RX8 52 yX8_set ∈ zTB := zin (zt4 (List.mem_of_getElem? (i := 92) (by decide +kernel))) rfl
theorem mlX8_55 : Cond.methodLink RX8 55 yX1_clear ∈ zTB := zin (zt4 (List.mem_of_getElem? (i := 51) (by decide +kernel))) rfl
theorem mlX8_58 : Cond.methodLink RX8 58 yX1_addLine ∈ zTB := zin (zt4 (List.mem_of_getElem? (i := 52) (by decide +kernel))) rfl
theorem mnX8_61 : (RX8, 61, yX11_mix, "HandBeasts") ∈ zNst := by decide +kernel
theorem mlX9_3 : Cond.methodLink RX9 3 Lib.objectInit ∈ zTB := zin (zt1 (List.mem_of_getElem? (i := 31) (by decide +kernel))) rfl
theorem obI : Cond.instanceMethod Lib.objectInit ∈ zTB := zin (zt1 (List.mem_of_getElem? (i := 24) (by decide +kernel))) rfl
theorem obC : Cond.code Lib.objectInit ⟨#[0xb1]⟩ 1 none ∈ zTB := zin (zt1 (List.mem_of_getElem? (i := 25) rfl)) rfl
theorem acN : Cond.native arraycopyName ∈ zTB := zin (zt3 (List.mem_of_getElem? (i := 53) (by decide +kernel))) rfl
theorem acS : Cond.static arraycopyName ∈ zTB := zin (zt3 (List.mem_of_getElem? (i := 52) (by decide +kernel))) rfl
theorem acI : Cond.initialized "java/lang/System" ∈ zTB := zin (zt1 (List.mem_of_getElem? (i := 15) (by decide +kernel))) rfl
theorem cnJ13_314 : Cond.constantLong RJ13 314 (6148914691236517205) ∈ zTB := zin (zt4 (List.mem_of_getElem? (i := 60) (by decide +kernel))) rfl
theorem cnJ13_316 : Cond.constantLong RJ13 316 (3689348814741910323) ∈ zTB := zin (zt4 (List.mem_of_getElem? (i := 61) (by decide +kernel))) rfl
theorem cnJ13_318 : Cond.constantLong RJ13 318 (1085102592571150095) ∈ zTB := zin (zt4 (List.mem_of_getElem? (i := 62) (by decide +kernel))) rfl
theorem cnJ6_264 : Cond.constant RJ6 264 (65536) ∈ zTB := zin (zt4 (List.mem_of_getElem? (i := 116) (by decide +kernel))) rfl
theorem cnJ6_265 : Cond.constant RJ6 265 (1431655765) ∈ zTB := zin (zt5 (List.mem_of_getElem? (i := 60) (by decide +kernel))) rfl
theorem cnJ6_266 : Cond.constant RJ6 266 (858993459) ∈ zTB := zin (zt5 (List.mem_of_getElem? (i := 61) (by decide +kernel))) rfl
theorem cnJ6_267 : Cond.constant RJ6 267 (252645135) ∈ zTB := zin (zt5 (List.mem_of_getElem? (i := 62) (by decide +kernel))) rfl
theorem cnX0_23 : Cond.constantLong RX0 23 (-1) ∈ zTB := zin (zt4 (List.mem_of_getElem? (i := 141) (by decide +kernel))) rfl
theorem cnX1_18 : Cond.constantLong RX1 18 (-1) ∈ zTB := zin (zt4 (List.mem_of_getElem? (i := 208) (by decide +kernel))) rfl
theorem cnX10_79 : Cond.constant RX10 79 (1000000) ∈ zTB := zin (zt5 (List.mem_of_getElem? (i := 76) (by decide +kernel))) rfl
theorem cnX11_491 : Cond.constantLong RX11 491 (17) ∈ zTB := zin (zt5 (List.mem_of_getElem? (i := 233) (by decide +kernel))) rfl
theorem cnX11_535 : Cond.constantLong RX11 535 (31) ∈ zTB := zin (zt5 (List.mem_of_getElem? (i := 238) (by decide +kernel))) rfl
theorem cnX12_371 : Cond.constant RX12 371 (1000000) ∈ zTB := zin (zt8 (List.mem_of_getElem? (i := 121) (by decide +kernel))) rfl
theorem cnX12_404 : Cond.constantLong RX12 404 (31) ∈ zTB := zin (zt8 (List.mem_of_getElem? (i := 195) (by decide +kernel))) rfl
theorem cnX12_413 : Cond.constantLong RX12 413 (-1) ∈ zTB := zin (zt8 (List.mem_of_getElem? (i := 204) (by decide +kernel))) rfl
theorem cnX12_415 : Cond.constantLong RX12 415 (17) ∈ zTB := zin (zt8 (List.mem_of_getElem? (i := 190) (by decide +kernel))) rfl
theorem flX0_10 : zFl RX0 10 0 0 2 := ⟨_, _, _, rfl, by decide, uwX0, zin (zt1 (List.mem_of_getElem? (i := 237) (by decide +kernel))) rfl, rfl⟩
theorem plX0_10 : zPl RX0 10 0 0 2 (.object "HandBeasts$Cells") true := ⟨_, _, _, tyX0, rfl, by decide, uwX0, zin (zt1 (List.mem_of_getElem? (i := 237) (by decide +kernel))) rfl, rfl, tyX0_ok, nmX0, rfl, by decide +kernel, fun _ => rfl⟩
theorem flX0_16 : zFl RX0 16 0 1 2 := ⟨_, _, _, rfl, by decide, uwX0, zin (zt1 (List.mem_of_getElem? (i := 239) (by decide +kernel))) rfl, rfl⟩
theorem plX0_16 : zPl RX0 16 0 1 2 (.object "HandBeasts$Cells") true := ⟨_, _, _, tyX0, rfl, by decide, uwX0, zin (zt1 (List.mem_of_getElem? (i := 239) (by decide +kernel))) rfl, rfl, tyX0_ok, nmX0, rfl, by decide +kernel, fun _ => rfl⟩
theorem flX0_19 : zFl RX0 19 1 0 1 := ⟨_, _, _, rfl, by decide, uwX1, zin (zt1 (List.mem_of_getElem? (i := 179) (by decide +kernel))) rfl, rfl⟩
theorem plX0_19 : zPl RX0 19 1 0 1 .long false := ⟨_, _, _, tyX1, rfl, by decide, uwX1, zin (zt1 (List.mem_of_getElem? (i := 179) (by decide +kernel))) rfl, rfl, tyX1_ok, nmX1, rfl, by decide +kernel, fun _ => by contradiction⟩
theorem flX0_31 : zFl RX0 31 1 1 1 := ⟨_, _, _, rfl, by decide, uwX1, zin (zt1 (List.mem_of_getElem? (i := 185) (by decide +kernel))) rfl, rfl⟩
theorem plX0_31 : zPl RX0 31 1 1 1 .long false := ⟨_, _, _, tyX1, rfl, by decide, uwX1, zin (zt1 (List.mem_of_getElem? (i := 185) (by decide +kernel))) rfl, rfl, tyX1_ok, nmX1, rfl, by decide +kernel, fun _ => by contradiction⟩
theorem flX0_41 : zFl RX0 41 0 3 0 := ⟨_, _, _, rfl, by decide, uwX0, zin (zt2 (List.mem_of_getElem? (i := 4) (by decide +kernel))) rfl, rfl⟩
theorem plX0_41 : zPl RX0 41 0 3 0 .boolean false := ⟨_, _, _, tyX0, rfl, by decide, uwX0, zin (zt2 (List.mem_of_getElem? (i := 4) (by decide +kernel))) rfl, rfl, tyX0_ok, nmX0, rfl, by decide +kernel, fun _ => rfl⟩
theorem flX0_55 : zFl RX0 55 0 2 0 := ⟨_, _, _, rfl, by decide, uwX0, zin (zt2 (List.mem_of_getElem? (i := 1) (by decide +kernel))) rfl, rfl⟩
theorem plX0_55 : zPl RX0 55 0 2 0 .int false := ⟨_, _, _, tyX0, rfl, by decide, uwX0, zin (zt2 (List.mem_of_getElem? (i := 1) (by decide +kernel))) rfl, rfl, tyX0_ok, nmX0, rfl, by decide +kernel, fun _ => rfl⟩
theorem flX1_9 : zFl RX1 9 1 0 1 := ⟨_, _, _, rfl, by decide, uwX1, zin (zt1 (List.mem_of_getElem? (i := 178) (by decide +kernel))) rfl, rfl⟩
theorem plX1_9 : zPl RX1 9 1 0 1 .long false := ⟨_, _, _, tyX1, rfl, by decide, uwX1, zin (zt1 (List.mem_of_getElem? (i := 178) (by decide +kernel))) rfl, rfl, tyX1_ok, nmX1, rfl, by decide +kernel, fun _ => rfl⟩
theorem flX1_15 : zFl RX1 15 1 1 1 := ⟨_, _, _, rfl, by decide, uwX1, zin (zt1 (List.mem_of_getElem? (i := 184) (by decide +kernel))) rfl, rfl⟩
theorem plX1_15 : zPl RX1 15 1 1 1 .long false := ⟨_, _, _, tyX1, rfl, by decide, uwX1, zin (zt1 (List.mem_of_getElem? (i := 184) (by decide +kernel))) rfl, rfl, tyX1_ok, nmX1, rfl, by decide +kernel, fun _ => rfl⟩
theorem flX10_9 : zFl RX10 9 10 0 2 := ⟨_, _, _, rfl, by decide, uwX10, zin (zt2 (List.mem_of_getElem? (i := 139) (by decide +kernel))) rfl, rfl⟩
theorem plX10_9 : zPl RX10 9 10 0 2 (.array .int) true := ⟨_, _, _, tyX10, rfl, by decide, uwX10, zin (zt2 (List.mem_of_getElem? (i := 139) (by decide +kernel))) rfl, rfl, tyX10_ok, nmX10, rfl, by decide +kernel, fun _ => rfl⟩
theorem flX10_15 : zFl RX10 15 10 1 2 := ⟨_, _, _, rfl, by decide, uwX10, zin (zt2 (List.mem_of_getElem? (i := 140) (by decide +kernel))) rfl, rfl⟩
theorem plX10_15 : zPl RX10 15 10 1 2 (.array .int) true := ⟨_, _, _, tyX10, rfl, by decide, uwX10, zin (zt2 (List.mem_of_getElem? (i := 140) (by decide +kernel))) rfl, rfl, tyX10_ok, nmX10, rfl, by decide +kernel, fun _ => rfl⟩
theorem flX10_18 : zFl RX10 18 10 4 2 := ⟨_, _, _, rfl, by decide, uwX10, zin (zt2 (List.mem_of_getElem? (i := 144) (by decide +kernel))) rfl, rfl⟩
theorem plX10_18 : zPl RX10 18 10 4 2 (.array .int) true := ⟨_, _, _, tyX10, rfl, by decide, uwX10, zin (zt2 (List.mem_of_getElem? (i := 144) (by decide +kernel))) rfl, rfl, tyX10_ok, nmX10, rfl, by decide +kernel, fun _ => rfl⟩
theorem flX10_21 : zFl RX10 21 10 5 2 := ⟨_, _, _, rfl, by decide, uwX10, zin (zt2 (List.mem_of_getElem? (i := 145) (by decide +kernel))) rfl, rfl⟩
theorem plX10_21 : zPl RX10 21 10 5 2 (.array .int) true := ⟨_, _, _, tyX10, rfl, by decide, uwX10, zin (zt2 (List.mem_of_getElem? (i := 145) (by decide +kernel))) rfl, rfl, tyX10_ok, nmX10, rfl, by decide +kernel, fun _ => rfl⟩
theorem flX10_26 : zFl RX10 26 10 6 2 := ⟨_, _, _, rfl, by decide, uwX10, zin (zt2 (List.mem_of_getElem? (i := 146) (by decide +kernel))) rfl, rfl⟩
theorem plX10_26 : zPl RX10 26 10 6 2 (.array (.array .int)) true := ⟨_, _, _, tyX10, rfl, by decide, uwX10, zin (zt2 (List.mem_of_getElem? (i := 146) (by decide +kernel))) rfl, rfl, tyX10_ok, nmX10, rfl, by decide +kernel, fun _ => rfl⟩
theorem flX10_29 : zFl RX10 29 10 7 2 := ⟨_, _, _, rfl, by decide, uwX10, zin (zt2 (List.mem_of_getElem? (i := 147) (by decide +kernel))) rfl, rfl⟩
theorem plX10_29 : zPl RX10 29 10 7 2 (.array .int) true := ⟨_, _, _, tyX10, rfl, by decide, uwX10, zin (zt2 (List.mem_of_getElem? (i := 147) (by decide +kernel))) rfl, rfl, tyX10_ok, nmX10, rfl, by decide +kernel, fun _ => rfl⟩
theorem flX10_32 : zFl RX10 32 10 8 2 := ⟨_, _, _, rfl, by decide, uwX10, zin (zt2 (List.mem_of_getElem? (i := 148) (by decide +kernel))) rfl, rfl⟩
theorem plX10_32 : zPl RX10 32 10 8 2 (.array .int) true := ⟨_, _, _, tyX10, rfl, by decide, uwX10, zin (zt2 (List.mem_of_getElem? (i := 148) (by decide +kernel))) rfl, rfl, tyX10_ok, nmX10, rfl, by decide +kernel, fun _ => rfl⟩
theorem flX10_53 : zFl RX10 53 10 2 0 := ⟨_, _, _, rfl, by decide, uwX10, zin (zt2 (List.mem_of_getElem? (i := 141) (by decide +kernel))) rfl, rfl⟩
theorem plX10_53 : zPl RX10 53 10 2 0 .int false := ⟨_, _, _, tyX10, rfl, by decide, uwX10, zin (zt2 (List.mem_of_getElem? (i := 141) (by decide +kernel))) rfl, rfl, tyX10_ok, nmX10, rfl, by decide +kernel, fun _ => rfl⟩
theorem flX10_61 : zFl RX10 61 2 2 0 := ⟨_, _, _, rfl, by decide, uwX2, zin (zt1 (List.mem_of_getElem? (i := 105) (by decide +kernel))) rfl, rfl⟩
theorem plX10_61 : zPl RX10 61 2 2 0 .int false := ⟨_, _, _, tyX2, rfl, by decide, uwX2, zin (zt1 (List.mem_of_getElem? (i := 105) (by decide +kernel))) rfl, rfl, tyX2_ok, nmX2, rfl, by decide +kernel, fun _ => by contradiction⟩
theorem flX10_66 : zFl RX10 66 6 2 2 := ⟨_, _, _, rfl, by decide, uwX6, zin (zt2 (List.mem_of_getElem? (i := 79) (by decide +kernel))) rfl, rfl⟩
theorem flX10_69 : zFl RX10 69 6 3 2 := ⟨_, _, _, rfl, by decide, uwX6, zin (zt2 (List.mem_of_getElem? (i := 81) (by decide +kernel))) rfl, rfl⟩
theorem flX10_72 : zFl RX10 72 10 3 0 := ⟨_, _, _, rfl, by decide, uwX10, zin (zt2 (List.mem_of_getElem? (i := 142) (by decide +kernel))) rfl, rfl⟩
theorem plX10_72 : zPl RX10 72 10 3 0 .int false := ⟨_, _, _, tyX10, rfl, by decide, uwX10, zin (zt2 (List.mem_of_getElem? (i := 142) (by decide +kernel))) rfl, rfl, tyX10_ok, nmX10, rfl, by decide +kernel, fun _ => rfl⟩
theorem flX11_12 : zFl RX11 12 11 0 2 := ⟨_, _, _, rfl, by decide, uwX11, zin (zt2 (List.mem_of_getElem? (i := 171) (by decide +kernel))) rfl, rfl⟩
theorem plX11_12 : zPl RX11 12 11 0 2 (.object "HandBeasts$Told") true := ⟨_, _, _, tyX11, rfl, by decide, uwX11, zin (zt2 (List.mem_of_getElem? (i := 171) (by decide +kernel))) rfl, rfl, tyX11_ok, nmX11, rfl, by decide +kernel, fun _ => rfl⟩
theorem flX11_18 : zFl RX11 18 11 1 2 := ⟨_, _, _, rfl, by decide, uwX11, zin (zt2 (List.mem_of_getElem? (i := 172) (by decide +kernel))) rfl, rfl⟩
theorem plX11_18 : zPl RX11 18 11 1 2 (.array (.object "HandBeasts$Row")) true := ⟨_, _, _, tyX11, rfl, by decide, uwX11, zin (zt2 (List.mem_of_getElem? (i := 172) (by decide +kernel))) rfl, rfl, tyX11_ok, nmX11, rfl, by decide +kernel, fun _ => rfl⟩
theorem flX11_25 : zFl RX11 25 11 2 2 := ⟨_, _, _, rfl, by decide, uwX11, zin (zt2 (List.mem_of_getElem? (i := 173) (by decide +kernel))) rfl, rfl⟩
theorem plX11_25 : zPl RX11 25 11 2 2 (.array (.object "HandBeasts$Row")) true := ⟨_, _, _, tyX11, rfl, by decide, uwX11, zin (zt2 (List.mem_of_getElem? (i := 173) (by decide +kernel))) rfl, rfl, tyX11_ok, nmX11, rfl, by decide +kernel, fun _ => rfl⟩
theorem flX11_31 : zFl RX11 31 11 3 2 := ⟨_, _, _, rfl, by decide, uwX11, zin (zt2 (List.mem_of_getElem? (i := 174) (by decide +kernel))) rfl, rfl⟩
theorem plX11_31 : zPl RX11 31 11 3 2 (.object "HandBeasts$Reader") true := ⟨_, _, _, tyX11, rfl, by decide, uwX11, zin (zt2 (List.mem_of_getElem? (i := 174) (by decide +kernel))) rfl, rfl, tyX11_ok, nmX11, rfl, by decide +kernel, fun _ => rfl⟩
theorem flX11_38 : zFl RX11 38 11 4 2 := ⟨_, _, _, rfl, by decide, uwX11, zin (zt2 (List.mem_of_getElem? (i := 175) (by decide +kernel))) rfl, rfl⟩
theorem plX11_38 : zPl RX11 38 11 4 2 (.object "HandBeasts$Hands") true := ⟨_, _, _, tyX11, rfl, by decide, uwX11, zin (zt2 (List.mem_of_getElem? (i := 175) (by decide +kernel))) rfl, rfl, tyX11_ok, nmX11, rfl, by decide +kernel, fun _ => rfl⟩
theorem flX11_42 : zFl RX11 42 11 5 2 := ⟨_, _, _, rfl, by decide, uwX11, zin (zt2 (List.mem_of_getElem? (i := 176) (by decide +kernel))) rfl, rfl⟩
theorem plX11_42 : zPl RX11 42 11 5 2 (.object "HandBeasts$Hands") true := ⟨_, _, _, tyX11, rfl, by decide, uwX11, zin (zt2 (List.mem_of_getElem? (i := 176) (by decide +kernel))) rfl, rfl, tyX11_ok, nmX11, rfl, by decide +kernel, fun _ => rfl⟩
theorem flX11_48 : zFl RX11 48 11 6 2 := ⟨_, _, _, rfl, by decide, uwX11, zin (zt2 (List.mem_of_getElem? (i := 177) (by decide +kernel))) rfl, rfl⟩
theorem plX11_48 : zPl RX11 48 11 6 2 (.object "HandBeasts$Lamp") true := ⟨_, _, _, tyX11, rfl, by decide, uwX11, zin (zt2 (List.mem_of_getElem? (i := 177) (by decide +kernel))) rfl, rfl, tyX11_ok, nmX11, rfl, by decide +kernel, fun _ => rfl⟩
theorem flX11_52 : zFl RX11 52 11 7 2 := ⟨_, _, _, rfl, by decide, uwX11, zin (zt2 (List.mem_of_getElem? (i := 178) (by decide +kernel))) rfl, rfl⟩
theorem plX11_52 : zPl RX11 52 11 7 2 (.object "HandBeasts$Lamp") true := ⟨_, _, _, tyX11, rfl, by decide, uwX11, zin (zt2 (List.mem_of_getElem? (i := 178) (by decide +kernel))) rfl, rfl, tyX11_ok, nmX11, rfl, by decide +kernel, fun _ => rfl⟩
theorem flX11_55 : zFl RX11 55 11 8 0 := ⟨_, _, _, rfl, by decide, uwX11, zin (zt2 (List.mem_of_getElem? (i := 179) (by decide +kernel))) rfl, rfl⟩
theorem plX11_55 : zPl RX11 55 11 8 0 .int false := ⟨_, _, _, tyX11, rfl, by decide, uwX11, zin (zt2 (List.mem_of_getElem? (i := 179) (by decide +kernel))) rfl, rfl, tyX11_ok, nmX11, rfl, by decide +kernel, fun _ => rfl⟩
theorem flX11_61 : zFl RX11 61 11 9 2 := ⟨_, _, _, rfl, by decide, uwX11, zin (zt2 (List.mem_of_getElem? (i := 180) (by decide +kernel))) rfl, rfl⟩
theorem plX11_61 : zPl RX11 61 11 9 2 (.array (.object "HandBeasts$Pose")) true := ⟨_, _, _, tyX11, rfl, by decide, uwX11, zin (zt2 (List.mem_of_getElem? (i := 180) (by decide +kernel))) rfl, rfl, tyX11_ok, nmX11, rfl, by decide +kernel, fun _ => rfl⟩
theorem flX11_68 : zFl RX11 68 11 11 2 := ⟨_, _, _, rfl, by decide, uwX11, zin (zt2 (List.mem_of_getElem? (i := 182) (by decide +kernel))) rfl, rfl⟩
theorem plX11_68 : zPl RX11 68 11 11 2 (.array (.object "HandBeasts$Beast")) true := ⟨_, _, _, tyX11, rfl, by decide, uwX11, zin (zt2 (List.mem_of_getElem? (i := 182) (by decide +kernel))) rfl, rfl, tyX11_ok, nmX11, rfl, by decide +kernel, fun _ => rfl⟩
theorem flX11_76 : zFl RX11 76 11 12 2 := ⟨_, _, _, rfl, by decide, uwX11, zin (zt2 (List.mem_of_getElem? (i := 183) (by decide +kernel))) rfl, rfl⟩
theorem plX11_76 : zPl RX11 76 11 12 2 (.object "HandBeasts$Lookers") true := ⟨_, _, _, tyX11, rfl, by decide, uwX11, zin (zt2 (List.mem_of_getElem? (i := 183) (by decide +kernel))) rfl, rfl, tyX11_ok, nmX11, rfl, by decide +kernel, fun _ => rfl⟩
theorem flX11_83 : zFl RX11 83 11 13 2 := ⟨_, _, _, rfl, by decide, uwX11, zin (zt2 (List.mem_of_getElem? (i := 184) (by decide +kernel))) rfl, rfl⟩
theorem plX11_83 : zPl RX11 83 11 13 2 (.object "HandBeasts$Reach") true := ⟨_, _, _, tyX11, rfl, by decide, uwX11, zin (zt2 (List.mem_of_getElem? (i := 184) (by decide +kernel))) rfl, rfl, tyX11_ok, nmX11, rfl, by decide +kernel, fun _ => rfl⟩
theorem flX11_90 : zFl RX11 90 11 14 2 := ⟨_, _, _, rfl, by decide, uwX11, zin (zt2 (List.mem_of_getElem? (i := 185) (by decide +kernel))) rfl, rfl⟩
theorem plX11_90 : zPl RX11 90 11 14 2 (.object "HandBeasts$Ways") true := ⟨_, _, _, tyX11, rfl, by decide, uwX11, zin (zt2 (List.mem_of_getElem? (i := 185) (by decide +kernel))) rfl, rfl, tyX11_ok, nmX11, rfl, by decide +kernel, fun _ => rfl⟩
theorem flX11_97 : zFl RX11 97 11 15 2 := ⟨_, _, _, rfl, by decide, uwX11, zin (zt2 (List.mem_of_getElem? (i := 186) (by decide +kernel))) rfl, rfl⟩
theorem plX11_97 : zPl RX11 97 11 15 2 (.object "HandBeasts$Cells") true := ⟨_, _, _, tyX11, rfl, by decide, uwX11, zin (zt2 (List.mem_of_getElem? (i := 186) (by decide +kernel))) rfl, rfl, tyX11_ok, nmX11, rfl, by decide +kernel, fun _ => rfl⟩
theorem flX11_101 : zFl RX11 101 11 16 2 := ⟨_, _, _, rfl, by decide, uwX11, zin (zt2 (List.mem_of_getElem? (i := 187) (by decide +kernel))) rfl, rfl⟩
theorem plX11_101 : zPl RX11 101 11 16 2 (.object "HandBeasts$Cells") true := ⟨_, _, _, tyX11, rfl, by decide, uwX11, zin (zt2 (List.mem_of_getElem? (i := 187) (by decide +kernel))) rfl, rfl, tyX11_ok, nmX11, rfl, by decide +kernel, fun _ => rfl⟩
theorem flX11_104 : zFl RX11 104 11 17 2 := ⟨_, _, _, rfl, by decide, uwX11, zin (zt2 (List.mem_of_getElem? (i := 188) (by decide +kernel))) rfl, rfl⟩
theorem plX11_104 : zPl RX11 104 11 17 2 (.object "HandBeasts$Cells") true := ⟨_, _, _, tyX11, rfl, by decide, uwX11, zin (zt2 (List.mem_of_getElem? (i := 188) (by decide +kernel))) rfl, rfl, tyX11_ok, nmX11, rfl, by decide +kernel, fun _ => rfl⟩
theorem flX11_146 : zFl RX11 146 8 0 0 := ⟨_, _, _, rfl, by decide, uwX8, zin (zt1 (List.mem_of_getElem? (i := 66) (by decide +kernel))) rfl, rfl⟩
theorem plX11_146 : zPl RX11 146 8 0 0 .int false := ⟨_, _, _, tyX8, rfl, by decide, uwX8, zin (zt1 (List.mem_of_getElem? (i := 66) (by decide +kernel))) rfl, rfl, tyX8_ok, nmX8, rfl, by decide +kernel, fun _ => by contradiction⟩
theorem flX11_167 : zFl RX11 167 2 2 0 := ⟨_, _, _, rfl, by decide, uwX2, zin (zt1 (List.mem_of_getElem? (i := 106) (by decide +kernel))) rfl, rfl⟩
theorem plX11_167 : zPl RX11 167 2 2 0 .int false := ⟨_, _, _, tyX2, rfl, by decide, uwX2, zin (zt1 (List.mem_of_getElem? (i := 106) (by decide +kernel))) rfl, rfl, tyX2_ok, nmX2, rfl, by decide +kernel, fun _ => by contradiction⟩
theorem flX11_170 : zFl RX11 170 2 1 0 := ⟨_, _, _, rfl, by decide, uwX2, zin (zt1 (List.mem_of_getElem? (i := 101) (by decide +kernel))) rfl, rfl⟩
theorem plX11_170 : zPl RX11 170 2 1 0 .int false := ⟨_, _, _, tyX2, rfl, by decide, uwX2, zin (zt1 (List.mem_of_getElem? (i := 101) (by decide +kernel))) rfl, rfl, tyX2_ok, nmX2, rfl, by decide +kernel, fun _ => by contradiction⟩
theorem flX11_173 : zFl RX11 173 2 4 2 := ⟨_, _, _, rfl, by decide, uwX2, zin (zt1 (List.mem_of_getElem? (i := 110) (by decide +kernel))) rfl, rfl⟩
theorem flX11_177 : zFl RX11 177 2 5 2 := ⟨_, _, _, rfl, by decide, uwX2, zin (zt1 (List.mem_of_getElem? (i := 112) (by decide +kernel))) rfl, rfl⟩
theorem flX11_180 : zFl RX11 180 2 6 2 := ⟨_, _, _, rfl, by decide, uwX2, zin (zt1 (List.mem_of_getElem? (i := 115) (by decide +kernel))) rfl, rfl⟩
theorem flX11_183 : zFl RX11 183 2 7 2 := ⟨_, _, _, rfl, by decide, uwX2, zin (zt1 (List.mem_of_getElem? (i := 118) (by decide +kernel))) rfl, rfl⟩
theorem flX11_189 : zFl RX11 189 2 8 2 := ⟨_, _, _, rfl, by decide, uwX2, zin (zt1 (List.mem_of_getElem? (i := 120) (by decide +kernel))) rfl, rfl⟩
theorem flX11_192 : zFl RX11 192 2 9 2 := ⟨_, _, _, rfl, by decide, uwX2, zin (zt1 (List.mem_of_getElem? (i := 123) (by decide +kernel))) rfl, rfl⟩
theorem flX11_195 : zFl RX11 195 2 10 2 := ⟨_, _, _, rfl, by decide, uwX2, zin (zt1 (List.mem_of_getElem? (i := 125) (by decide +kernel))) rfl, rfl⟩
theorem flX11_213 : zFl RX11 213 11 10 0 := ⟨_, _, _, rfl, by decide, uwX11, zin (zt2 (List.mem_of_getElem? (i := 181) (by decide +kernel))) rfl, rfl⟩
theorem plX11_213 : zPl RX11 213 11 10 0 .int false := ⟨_, _, _, tyX11, rfl, by decide, uwX11, zin (zt2 (List.mem_of_getElem? (i := 181) (by decide +kernel))) rfl, rfl, tyX11_ok, nmX11, rfl, by decide +kernel, fun _ => rfl⟩
theorem flX11_224 : zFl RX11 224 5 3 0 := ⟨_, _, _, rfl, by decide, uwX5, zin (zt1 (List.mem_of_getElem? (i := 202) (by decide +kernel))) rfl, rfl⟩
theorem plX11_224 : zPl RX11 224 5 3 0 .int false := ⟨_, _, _, tyX5, rfl, by decide, uwX5, zin (zt1 (List.mem_of_getElem? (i := 202) (by decide +kernel))) rfl, rfl, tyX5_ok, nmX5, rfl, by decide +kernel, fun _ => by contradiction⟩
theorem flX11_237 : zFl RX11 237 5 2 2 := ⟨_, _, _, rfl, by decide, uwX5, zin (zt1 (List.mem_of_getElem? (i := 200) (by decide +kernel))) rfl, rfl⟩
theorem flX11_244 : zFl RX11 244 5 4 0 := ⟨_, _, _, rfl, by decide, uwX5, zin (zt1 (List.mem_of_getElem? (i := 204) (by decide +kernel))) rfl, rfl⟩
theorem plX11_244 : zPl RX11 244 5 4 0 .int false := ⟨_, _, _, tyX5, rfl, by decide, uwX5, zin (zt1 (List.mem_of_getElem? (i := 204) (by decide +kernel))) rfl, rfl, tyX5_ok, nmX5, rfl, by decide +kernel, fun _ => by contradiction⟩
theorem flX11_250 : zFl RX11 250 5 5 0 := ⟨_, _, _, rfl, by decide, uwX5, zin (zt1 (List.mem_of_getElem? (i := 206) (by decide +kernel))) rfl, rfl⟩
theorem plX11_250 : zPl RX11 250 5 5 0 .int false := ⟨_, _, _, tyX5, rfl, by decide, uwX5, zin (zt1 (List.mem_of_getElem? (i := 206) (by decide +kernel))) rfl, rfl, tyX5_ok, nmX5, rfl, by decide +kernel, fun _ => by contradiction⟩
theorem flX11_253 : zFl RX11 253 5 0 2 := ⟨_, _, _, rfl, by decide, uwX5, zin (zt1 (List.mem_of_getElem? (i := 196) (by decide +kernel))) rfl, rfl⟩
theorem flX11_256 : zFl RX11 256 5 1 2 := ⟨_, _, _, rfl, by decide, uwX5, zin (zt1 (List.mem_of_getElem? (i := 198) (by decide +kernel))) rfl, rfl⟩
theorem flX11_259 : zFl RX11 259 5 6 0 := ⟨_, _, _, rfl, by decide, uwX5, zin (zt1 (List.mem_of_getElem? (i := 208) (by decide +kernel))) rfl, rfl⟩
theorem plX11_259 : zPl RX11 259 5 6 0 .int false := ⟨_, _, _, tyX5, rfl, by decide, uwX5, zin (zt1 (List.mem_of_getElem? (i := 208) (by decide +kernel))) rfl, rfl, tyX5_ok, nmX5, rfl, by decide +kernel, fun _ => by contradiction⟩
theorem flX11_262 : zFl RX11 262 5 7 0 := ⟨_, _, _, rfl, by decide, uwX5, zin (zt1 (List.mem_of_getElem? (i := 210) (by decide +kernel))) rfl, rfl⟩
theorem plX11_262 : zPl RX11 262 5 7 0 .int false := ⟨_, _, _, tyX5, rfl, by decide, uwX5, zin (zt1 (List.mem_of_getElem? (i := 210) (by decide +kernel))) rfl, rfl, tyX5_ok, nmX5, rfl, by decide +kernel, fun _ => by contradiction⟩
theorem flX11_275 : zFl RX11 275 0 0 2 := ⟨_, _, _, rfl, by decide, uwX0, zin (zt1 (List.mem_of_getElem? (i := 238) (by decide +kernel))) rfl, rfl⟩
theorem flX11_278 : zFl RX11 278 0 1 2 := ⟨_, _, _, rfl, by decide, uwX0, zin (zt2 (List.mem_of_getElem? (i := 0) (by decide +kernel))) rfl, rfl⟩
theorem flX11_281 : zFl RX11 281 0 2 0 := ⟨_, _, _, rfl, by decide, uwX0, zin (zt2 (List.mem_of_getElem? (i := 3) (by decide +kernel))) rfl, rfl⟩
theorem plX11_281 : zPl RX11 281 0 2 0 .int false := ⟨_, _, _, tyX0, rfl, by decide, uwX0, zin (zt2 (List.mem_of_getElem? (i := 3) (by decide +kernel))) rfl, rfl, tyX0_ok, nmX0, rfl, by decide +kernel, fun _ => by contradiction⟩
theorem flX11_284 : zFl RX11 284 0 3 0 := ⟨_, _, _, rfl, by decide, uwX0, zin (zt2 (List.mem_of_getElem? (i := 6) (by decide +kernel))) rfl, rfl⟩
theorem plX11_284 : zPl RX11 284 0 3 0 .boolean false := ⟨_, _, _, tyX0, rfl, by decide, uwX0, zin (zt2 (List.mem_of_getElem? (i := 6) (by decide +kernel))) rfl, rfl, tyX0_ok, nmX0, rfl, by decide +kernel, fun _ => by contradiction⟩
theorem flX11_288 : zFl RX11 288 1 0 1 := ⟨_, _, _, rfl, by decide, uwX1, zin (zt1 (List.mem_of_getElem? (i := 183) (by decide +kernel))) rfl, rfl⟩
theorem plX11_288 : zPl RX11 288 1 0 1 .long false := ⟨_, _, _, tyX1, rfl, by decide, uwX1, zin (zt1 (List.mem_of_getElem? (i := 183) (by decide +kernel))) rfl, rfl, tyX1_ok, nmX1, rfl, by decide +kernel, fun _ => by contradiction⟩
theorem flX11_292 : zFl RX11 292 1 1 1 := ⟨_, _, _, rfl, by decide, uwX1, zin (zt1 (List.mem_of_getElem? (i := 189) (by decide +kernel))) rfl, rfl⟩
theorem plX11_292 : zPl RX11 292 1 1 1 .long false := ⟨_, _, _, tyX1, rfl, by decide, uwX1, zin (zt1 (List.mem_of_getElem? (i := 189) (by decide +kernel))) rfl, rfl, tyX1_ok, nmX1, rfl, by decide +kernel, fun _ => by contradiction⟩
theorem flX11_302 : zFl RX11 302 6 0 0 := ⟨_, _, _, rfl, by decide, uwX6, zin (zt2 (List.mem_of_getElem? (i := 75) (by decide +kernel))) rfl, rfl⟩
theorem plX11_302 : zPl RX11 302 6 0 0 .boolean false := ⟨_, _, _, tyX6, rfl, by decide, uwX6, zin (zt2 (List.mem_of_getElem? (i := 75) (by decide +kernel))) rfl, rfl, tyX6_ok, nmX6, rfl, by decide +kernel, fun _ => by contradiction⟩
theorem flX11_305 : zFl RX11 305 6 1 0 := ⟨_, _, _, rfl, by decide, uwX6, zin (zt2 (List.mem_of_getElem? (i := 77) (by decide +kernel))) rfl, rfl⟩
theorem plX11_305 : zPl RX11 305 6 1 0 .int false := ⟨_, _, _, tyX6, rfl, by decide, uwX6, zin (zt2 (List.mem_of_getElem? (i := 77) (by decide +kernel))) rfl, rfl, tyX6_ok, nmX6, rfl, by decide +kernel, fun _ => by contradiction⟩
theorem flX11_383 : zFl RX11 383 10 3 0 := ⟨_, _, _, rfl, by decide, uwX10, zin (zt2 (List.mem_of_getElem? (i := 143) (by decide +kernel))) rfl, rfl⟩
theorem plX11_383 : zPl RX11 383 10 3 0 .int false := ⟨_, _, _, tyX10, rfl, by decide, uwX10, zin (zt2 (List.mem_of_getElem? (i := 143) (by decide +kernel))) rfl, rfl, tyX10_ok, nmX10, rfl, by decide +kernel, fun _ => by contradiction⟩
theorem flX11_386 : zFl RX11 386 10 8 2 := ⟨_, _, _, rfl, by decide, uwX10, zin (zt2 (List.mem_of_getElem? (i := 149) (by decide +kernel))) rfl, rfl⟩
theorem flX11_389 : zFl RX11 389 2 0 0 := ⟨_, _, _, rfl, by decide, uwX2, zin (zt1 (List.mem_of_getElem? (i := 97) (by decide +kernel))) rfl, rfl⟩
theorem plX11_389 : zPl RX11 389 2 0 0 .int false := ⟨_, _, _, tyX2, rfl, by decide, uwX2, zin (zt1 (List.mem_of_getElem? (i := 97) (by decide +kernel))) rfl, rfl, tyX2_ok, nmX2, rfl, by decide +kernel, fun _ => by contradiction⟩
theorem flX11_408 : zFl RX11 408 4 0 0 := ⟨_, _, _, rfl, by decide, uwX4, zin (zt2 (List.mem_of_getElem? (i := 25) (by decide +kernel))) rfl, rfl⟩
theorem plX11_408 : zPl RX11 408 4 0 0 .int false := ⟨_, _, _, tyX4, rfl, by decide, uwX4, zin (zt2 (List.mem_of_getElem? (i := 25) (by decide +kernel))) rfl, rfl, tyX4_ok, nmX4, rfl, by decide +kernel, fun _ => by contradiction⟩
theorem flX11_417 : zFl RX11 417 4 1 2 := ⟨_, _, _, rfl, by decide, uwX4, zin (zt2 (List.mem_of_getElem? (i := 27) (by decide +kernel))) rfl, rfl⟩
theorem flX11_421 : zFl RX11 421 4 2 0 := ⟨_, _, _, rfl, by decide, uwX4, zin (zt2 (List.mem_of_getElem? (i := 29) (by decide +kernel))) rfl, rfl⟩
theorem plX11_421 : zPl RX11 421 4 2 0 .int false := ⟨_, _, _, tyX4, rfl, by decide, uwX4, zin (zt2 (List.mem_of_getElem? (i := 29) (by decide +kernel))) rfl, rfl, tyX4_ok, nmX4, rfl, by decide +kernel, fun _ => by contradiction⟩
theorem flX11_430 : zFl RX11 430 4 9 0 := ⟨_, _, _, rfl, by decide, uwX4, zin (zt2 (List.mem_of_getElem? (i := 40) (by decide +kernel))) rfl, rfl⟩
theorem plX11_430 : zPl RX11 430 4 9 0 .int false := ⟨_, _, _, tyX4, rfl, by decide, uwX4, zin (zt2 (List.mem_of_getElem? (i := 40) (by decide +kernel))) rfl, rfl, tyX4_ok, nmX4, rfl, by decide +kernel, fun _ => by contradiction⟩
theorem flX11_433 : zFl RX11 433 4 3 2 := ⟨_, _, _, rfl, by decide, uwX4, zin (zt2 (List.mem_of_getElem? (i := 31) (by decide +kernel))) rfl, rfl⟩
theorem flX11_436 : zFl RX11 436 4 4 2 := ⟨_, _, _, rfl, by decide, uwX4, zin (zt2 (List.mem_of_getElem? (i := 33) (by decide +kernel))) rfl, rfl⟩
theorem flX11_439 : zFl RX11 439 4 5 2 := ⟨_, _, _, rfl, by decide, uwX4, zin (zt2 (List.mem_of_getElem? (i := 35) (by decide +kernel))) rfl, rfl⟩
theorem flX11_455 : zFl RX11 455 4 10 2 := ⟨_, _, _, rfl, by decide, uwX4, zin (zt2 (List.mem_of_getElem? (i := 42) (by decide +kernel))) rfl, rfl⟩
theorem flX11_467 : zFl RX11 467 9 0 0 := ⟨_, _, _, rfl, by decide, uwX9, zin (zt1 (List.mem_of_getElem? (i := 33) (by decide +kernel))) rfl, rfl⟩
theorem plX11_467 : zPl RX11 467 9 0 0 .int false := ⟨_, _, _, tyX9, rfl, by decide, uwX9, zin (zt1 (List.mem_of_getElem? (i := 33) (by decide +kernel))) rfl, rfl, tyX9_ok, nmX9, rfl, by decide +kernel, fun _ => by contradiction⟩
theorem flX11_470 : zFl RX11 470 9 1 1 := ⟨_, _, _, rfl, by decide, uwX9, zin (zt1 (List.mem_of_getElem? (i := 35) (by decide +kernel))) rfl, rfl⟩
theorem plX11_470 : zPl RX11 470 9 1 1 .long false := ⟨_, _, _, tyX9, rfl, by decide, uwX9, zin (zt1 (List.mem_of_getElem? (i := 35) (by decide +kernel))) rfl, rfl, tyX9_ok, nmX9, rfl, by decide +kernel, fun _ => by contradiction⟩
theorem flX11_473 : zFl RX11 473 9 2 1 := ⟨_, _, _, rfl, by decide, uwX9, zin (zt1 (List.mem_of_getElem? (i := 37) (by decide +kernel))) rfl, rfl⟩
theorem plX11_473 : zPl RX11 473 9 2 1 .long false := ⟨_, _, _, tyX9, rfl, by decide, uwX9, zin (zt1 (List.mem_of_getElem? (i := 37) (by decide +kernel))) rfl, rfl, tyX9_ok, nmX9, rfl, by decide +kernel, fun _ => by contradiction⟩
theorem flX11_485 : zFl RX11 485 9 3 0 := ⟨_, _, _, rfl, by decide, uwX9, zin (zt1 (List.mem_of_getElem? (i := 39) (by decide +kernel))) rfl, rfl⟩
theorem plX11_485 : zPl RX11 485 9 3 0 .int false := ⟨_, _, _, tyX9, rfl, by decide, uwX9, zin (zt1 (List.mem_of_getElem? (i := 39) (by decide +kernel))) rfl, rfl, tyX9_ok, nmX9, rfl, by decide +kernel, fun _ => by contradiction⟩
theorem flX11_488 : zFl RX11 488 9 4 2 := ⟨_, _, _, rfl, by decide, uwX9, zin (zt1 (List.mem_of_getElem? (i := 41) (by decide +kernel))) rfl, rfl⟩
theorem flX12_7 : zFl RX12 7 12 1 2 := ⟨_, _, _, rfl, by decide, uwX12, zin (zt6 (List.mem_of_getElem? (i := 37) (by decide +kernel))) rfl, rfl⟩
theorem plX12_7 : zPl RX12 7 12 1 2 (.array .int) true := ⟨_, _, _, tyX12, rfl, by decide, uwX12, zin (zt6 (List.mem_of_getElem? (i := 37) (by decide +kernel))) rfl, rfl, tyX12_ok, nmX12, rfl, by decide +kernel, fun _ => rfl⟩
theorem flX12_13 : zFl RX12 13 12 5 2 := ⟨_, _, _, rfl, by decide, uwX12, zin (zt6 (List.mem_of_getElem? (i := 41) (by decide +kernel))) rfl, rfl⟩
theorem plX12_13 : zPl RX12 13 12 5 2 (.array .int) true := ⟨_, _, _, tyX12, rfl, by decide, uwX12, zin (zt6 (List.mem_of_getElem? (i := 41) (by decide +kernel))) rfl, rfl, tyX12_ok, nmX12, rfl, by decide +kernel, fun _ => rfl⟩
theorem flX12_16 : zFl RX12 16 12 6 2 := ⟨_, _, _, rfl, by decide, uwX12, zin (zt6 (List.mem_of_getElem? (i := 42) (by decide +kernel))) rfl, rfl⟩
theorem plX12_16 : zPl RX12 16 12 6 2 (.array .int) true := ⟨_, _, _, tyX12, rfl, by decide, uwX12, zin (zt6 (List.mem_of_getElem? (i := 42) (by decide +kernel))) rfl, rfl, tyX12_ok, nmX12, rfl, by decide +kernel, fun _ => rfl⟩
theorem flX12_19 : zFl RX12 19 12 7 2 := ⟨_, _, _, rfl, by decide, uwX12, zin (zt6 (List.mem_of_getElem? (i := 43) (by decide +kernel))) rfl, rfl⟩
theorem plX12_19 : zPl RX12 19 12 7 2 (.array .int) true := ⟨_, _, _, tyX12, rfl, by decide, uwX12, zin (zt6 (List.mem_of_getElem? (i := 43) (by decide +kernel))) rfl, rfl, tyX12_ok, nmX12, rfl, by decide +kernel, fun _ => rfl⟩
theorem flX12_22 : zFl RX12 22 12 8 2 := ⟨_, _, _, rfl, by decide, uwX12, zin (zt6 (List.mem_of_getElem? (i := 44) (by decide +kernel))) rfl, rfl⟩
theorem plX12_22 : zPl RX12 22 12 8 2 (.array .int) true := ⟨_, _, _, tyX12, rfl, by decide, uwX12, zin (zt6 (List.mem_of_getElem? (i := 44) (by decide +kernel))) rfl, rfl, tyX12_ok, nmX12, rfl, by decide +kernel, fun _ => rfl⟩
theorem flX12_25 : zFl RX12 25 12 9 2 := ⟨_, _, _, rfl, by decide, uwX12, zin (zt6 (List.mem_of_getElem? (i := 45) (by decide +kernel))) rfl, rfl⟩
theorem plX12_25 : zPl RX12 25 12 9 2 (.array .byte) true := ⟨_, _, _, tyX12, rfl, by decide, uwX12, zin (zt6 (List.mem_of_getElem? (i := 45) (by decide +kernel))) rfl, rfl, tyX12_ok, nmX12, rfl, by decide +kernel, fun _ => rfl⟩
theorem flX12_29 : zFl RX12 29 12 13 2 := ⟨_, _, _, rfl, by decide, uwX12, zin (zt6 (List.mem_of_getElem? (i := 49) (by decide +kernel))) rfl, rfl⟩
theorem plX12_29 : zPl RX12 29 12 13 2 (.array .int) true := ⟨_, _, _, tyX12, rfl, by decide, uwX12, zin (zt6 (List.mem_of_getElem? (i := 49) (by decide +kernel))) rfl, rfl, tyX12_ok, nmX12, rfl, by decide +kernel, fun _ => rfl⟩
theorem flX12_32 : zFl RX12 32 12 14 2 := ⟨_, _, _, rfl, by decide, uwX12, zin (zt6 (List.mem_of_getElem? (i := 50) (by decide +kernel))) rfl, rfl⟩
theorem plX12_32 : zPl RX12 32 12 14 2 (.array .int) true := ⟨_, _, _, tyX12, rfl, by decide, uwX12, zin (zt6 (List.mem_of_getElem? (i := 50) (by decide +kernel))) rfl, rfl, tyX12_ok, nmX12, rfl, by decide +kernel, fun _ => rfl⟩
theorem flX12_35 : zFl RX12 35 12 15 2 := ⟨_, _, _, rfl, by decide, uwX12, zin (zt6 (List.mem_of_getElem? (i := 51) (by decide +kernel))) rfl, rfl⟩
theorem plX12_35 : zPl RX12 35 12 15 2 (.array .int) true := ⟨_, _, _, tyX12, rfl, by decide, uwX12, zin (zt6 (List.mem_of_getElem? (i := 51) (by decide +kernel))) rfl, rfl, tyX12_ok, nmX12, rfl, by decide +kernel, fun _ => rfl⟩
theorem flX12_38 : zFl RX12 38 12 21 2 := ⟨_, _, _, rfl, by decide, uwX12, zin (zt6 (List.mem_of_getElem? (i := 57) (by decide +kernel))) rfl, rfl⟩
theorem plX12_38 : zPl RX12 38 12 21 2 (.array .int) true := ⟨_, _, _, tyX12, rfl, by decide, uwX12, zin (zt6 (List.mem_of_getElem? (i := 57) (by decide +kernel))) rfl, rfl, tyX12_ok, nmX12, rfl, by decide +kernel, fun _ => rfl⟩
theorem flX12_41 : zFl RX12 41 12 22 2 := ⟨_, _, _, rfl, by decide, uwX12, zin (zt6 (List.mem_of_getElem? (i := 58) (by decide +kernel))) rfl, rfl⟩
theorem plX12_41 : zPl RX12 41 12 22 2 (.array .int) true := ⟨_, _, _, tyX12, rfl, by decide, uwX12, zin (zt6 (List.mem_of_getElem? (i := 58) (by decide +kernel))) rfl, rfl, tyX12_ok, nmX12, rfl, by decide +kernel, fun _ => rfl⟩
theorem flX12_44 : zFl RX12 44 12 23 2 := ⟨_, _, _, rfl, by decide, uwX12, zin (zt6 (List.mem_of_getElem? (i := 59) (by decide +kernel))) rfl, rfl⟩
theorem plX12_44 : zPl RX12 44 12 23 2 (.array .int) true := ⟨_, _, _, tyX12, rfl, by decide, uwX12, zin (zt6 (List.mem_of_getElem? (i := 59) (by decide +kernel))) rfl, rfl, tyX12_ok, nmX12, rfl, by decide +kernel, fun _ => rfl⟩
theorem flX12_47 : zFl RX12 47 12 28 2 := ⟨_, _, _, rfl, by decide, uwX12, zin (zt6 (List.mem_of_getElem? (i := 64) (by decide +kernel))) rfl, rfl⟩
theorem plX12_47 : zPl RX12 47 12 28 2 (.array .int) true := ⟨_, _, _, tyX12, rfl, by decide, uwX12, zin (zt6 (List.mem_of_getElem? (i := 64) (by decide +kernel))) rfl, rfl, tyX12_ok, nmX12, rfl, by decide +kernel, fun _ => rfl⟩
theorem flX12_50 : zFl RX12 50 12 30 2 := ⟨_, _, _, rfl, by decide, uwX12, zin (zt6 (List.mem_of_getElem? (i := 66) (by decide +kernel))) rfl, rfl⟩
theorem plX12_50 : zPl RX12 50 12 30 2 (.array .int) true := ⟨_, _, _, tyX12, rfl, by decide, uwX12, zin (zt6 (List.mem_of_getElem? (i := 66) (by decide +kernel))) rfl, rfl, tyX12_ok, nmX12, rfl, by decide +kernel, fun _ => rfl⟩
theorem flX12_53 : zFl RX12 53 12 31 2 := ⟨_, _, _, rfl, by decide, uwX12, zin (zt6 (List.mem_of_getElem? (i := 67) (by decide +kernel))) rfl, rfl⟩
theorem plX12_53 : zPl RX12 53 12 31 2 (.array .int) true := ⟨_, _, _, tyX12, rfl, by decide, uwX12, zin (zt6 (List.mem_of_getElem? (i := 67) (by decide +kernel))) rfl, rfl, tyX12_ok, nmX12, rfl, by decide +kernel, fun _ => rfl⟩
theorem flX12_56 : zFl RX12 56 12 32 2 := ⟨_, _, _, rfl, by decide, uwX12, zin (zt6 (List.mem_of_getElem? (i := 68) (by decide +kernel))) rfl, rfl⟩
theorem plX12_56 : zPl RX12 56 12 32 2 (.array .int) true := ⟨_, _, _, tyX12, rfl, by decide, uwX12, zin (zt6 (List.mem_of_getElem? (i := 68) (by decide +kernel))) rfl, rfl, tyX12_ok, nmX12, rfl, by decide +kernel, fun _ => rfl⟩
theorem flX12_59 : zFl RX12 59 12 34 2 := ⟨_, _, _, rfl, by decide, uwX12, zin (zt6 (List.mem_of_getElem? (i := 70) (by decide +kernel))) rfl, rfl⟩
theorem plX12_59 : zPl RX12 59 12 34 2 (.array .int) true := ⟨_, _, _, tyX12, rfl, by decide, uwX12, zin (zt6 (List.mem_of_getElem? (i := 70) (by decide +kernel))) rfl, rfl, tyX12_ok, nmX12, rfl, by decide +kernel, fun _ => rfl⟩
theorem flX12_62 : zFl RX12 62 12 35 2 := ⟨_, _, _, rfl, by decide, uwX12, zin (zt6 (List.mem_of_getElem? (i := 71) (by decide +kernel))) rfl, rfl⟩
theorem plX12_62 : zPl RX12 62 12 35 2 (.array .int) true := ⟨_, _, _, tyX12, rfl, by decide, uwX12, zin (zt6 (List.mem_of_getElem? (i := 71) (by decide +kernel))) rfl, rfl, tyX12_ok, nmX12, rfl, by decide +kernel, fun _ => rfl⟩
theorem flX12_65 : zFl RX12 65 12 36 2 := ⟨_, _, _, rfl, by decide, uwX12, zin (zt6 (List.mem_of_getElem? (i := 72) (by decide +kernel))) rfl, rfl⟩
theorem plX12_65 : zPl RX12 65 12 36 2 (.array .int) true := ⟨_, _, _, tyX12, rfl, by decide, uwX12, zin (zt6 (List.mem_of_getElem? (i := 72) (by decide +kernel))) rfl, rfl, tyX12_ok, nmX12, rfl, by decide +kernel, fun _ => rfl⟩
theorem flX12_68 : zFl RX12 68 12 37 2 := ⟨_, _, _, rfl, by decide, uwX12, zin (zt6 (List.mem_of_getElem? (i := 73) (by decide +kernel))) rfl, rfl⟩
theorem plX12_68 : zPl RX12 68 12 37 2 (.array .boolean) true := ⟨_, _, _, tyX12, rfl, by decide, uwX12, zin (zt6 (List.mem_of_getElem? (i := 73) (by decide +kernel))) rfl, rfl, tyX12_ok, nmX12, rfl, by decide +kernel, fun _ => rfl⟩
theorem flX12_72 : zFl RX12 72 12 38 2 := ⟨_, _, _, rfl, by decide, uwX12, zin (zt6 (List.mem_of_getElem? (i := 74) (by decide +kernel))) rfl, rfl⟩
theorem plX12_72 : zPl RX12 72 12 38 2 (.array .int) true := ⟨_, _, _, tyX12, rfl, by decide, uwX12, zin (zt6 (List.mem_of_getElem? (i := 74) (by decide +kernel))) rfl, rfl, tyX12_ok, nmX12, rfl, by decide +kernel, fun _ => rfl⟩
theorem flX12_75 : zFl RX12 75 12 39 2 := ⟨_, _, _, rfl, by decide, uwX12, zin (zt6 (List.mem_of_getElem? (i := 75) (by decide +kernel))) rfl, rfl⟩
theorem plX12_75 : zPl RX12 75 12 39 2 (.array .int) true := ⟨_, _, _, tyX12, rfl, by decide, uwX12, zin (zt6 (List.mem_of_getElem? (i := 75) (by decide +kernel))) rfl, rfl, tyX12_ok, nmX12, rfl, by decide +kernel, fun _ => rfl⟩
theorem flX12_78 : zFl RX12 78 12 40 2 := ⟨_, _, _, rfl, by decide, uwX12, zin (zt6 (List.mem_of_getElem? (i := 76) (by decide +kernel))) rfl, rfl⟩
theorem plX12_78 : zPl RX12 78 12 40 2 (.array .int) true := ⟨_, _, _, tyX12, rfl, by decide, uwX12, zin (zt6 (List.mem_of_getElem? (i := 76) (by decide +kernel))) rfl, rfl, tyX12_ok, nmX12, rfl, by decide +kernel, fun _ => rfl⟩
theorem flX12_81 : zFl RX12 81 12 42 2 := ⟨_, _, _, rfl, by decide, uwX12, zin (zt6 (List.mem_of_getElem? (i := 78) (by decide +kernel))) rfl, rfl⟩
theorem plX12_81 : zPl RX12 81 12 42 2 (.array .int) true := ⟨_, _, _, tyX12, rfl, by decide, uwX12, zin (zt6 (List.mem_of_getElem? (i := 78) (by decide +kernel))) rfl, rfl, tyX12_ok, nmX12, rfl, by decide +kernel, fun _ => rfl⟩
theorem flX12_84 : zFl RX12 84 12 43 2 := ⟨_, _, _, rfl, by decide, uwX12, zin (zt6 (List.mem_of_getElem? (i := 79) (by decide +kernel))) rfl, rfl⟩
theorem plX12_84 : zPl RX12 84 12 43 2 (.array .int) true := ⟨_, _, _, tyX12, rfl, by decide, uwX12, zin (zt6 (List.mem_of_getElem? (i := 79) (by decide +kernel))) rfl, rfl, tyX12_ok, nmX12, rfl, by decide +kernel, fun _ => rfl⟩
theorem flX12_87 : zFl RX12 87 12 44 2 := ⟨_, _, _, rfl, by decide, uwX12, zin (zt6 (List.mem_of_getElem? (i := 80) (by decide +kernel))) rfl, rfl⟩
theorem plX12_87 : zPl RX12 87 12 44 2 (.array .int) true := ⟨_, _, _, tyX12, rfl, by decide, uwX12, zin (zt6 (List.mem_of_getElem? (i := 80) (by decide +kernel))) rfl, rfl, tyX12_ok, nmX12, rfl, by decide +kernel, fun _ => rfl⟩
theorem flX12_90 : zFl RX12 90 12 45 2 := ⟨_, _, _, rfl, by decide, uwX12, zin (zt6 (List.mem_of_getElem? (i := 81) (by decide +kernel))) rfl, rfl⟩
theorem plX12_90 : zPl RX12 90 12 45 2 (.array .int) true := ⟨_, _, _, tyX12, rfl, by decide, uwX12, zin (zt6 (List.mem_of_getElem? (i := 81) (by decide +kernel))) rfl, rfl, tyX12_ok, nmX12, rfl, by decide +kernel, fun _ => rfl⟩
theorem flX12_93 : zFl RX12 93 12 46 2 := ⟨_, _, _, rfl, by decide, uwX12, zin (zt6 (List.mem_of_getElem? (i := 82) (by decide +kernel))) rfl, rfl⟩
theorem plX12_93 : zPl RX12 93 12 46 2 (.array .int) true := ⟨_, _, _, tyX12, rfl, by decide, uwX12, zin (zt6 (List.mem_of_getElem? (i := 82) (by decide +kernel))) rfl, rfl, tyX12_ok, nmX12, rfl, by decide +kernel, fun _ => rfl⟩
theorem flX12_96 : zFl RX12 96 12 47 2 := ⟨_, _, _, rfl, by decide, uwX12, zin (zt6 (List.mem_of_getElem? (i := 83) (by decide +kernel))) rfl, rfl⟩
theorem plX12_96 : zPl RX12 96 12 47 2 (.array .int) true := ⟨_, _, _, tyX12, rfl, by decide, uwX12, zin (zt6 (List.mem_of_getElem? (i := 83) (by decide +kernel))) rfl, rfl, tyX12_ok, nmX12, rfl, by decide +kernel, fun _ => rfl⟩
theorem flX12_99 : zFl RX12 99 12 48 2 := ⟨_, _, _, rfl, by decide, uwX12, zin (zt6 (List.mem_of_getElem? (i := 84) (by decide +kernel))) rfl, rfl⟩
theorem plX12_99 : zPl RX12 99 12 48 2 (.array .boolean) true := ⟨_, _, _, tyX12, rfl, by decide, uwX12, zin (zt6 (List.mem_of_getElem? (i := 84) (by decide +kernel))) rfl, rfl, tyX12_ok, nmX12, rfl, by decide +kernel, fun _ => rfl⟩
theorem flX12_102 : zFl RX12 102 12 50 2 := ⟨_, _, _, rfl, by decide, uwX12, zin (zt6 (List.mem_of_getElem? (i := 86) (by decide +kernel))) rfl, rfl⟩
theorem plX12_102 : zPl RX12 102 12 50 2 (.array .int) true := ⟨_, _, _, tyX12, rfl, by decide, uwX12, zin (zt6 (List.mem_of_getElem? (i := 86) (by decide +kernel))) rfl, rfl, tyX12_ok, nmX12, rfl, by decide +kernel, fun _ => rfl⟩
theorem flX12_105 : zFl RX12 105 12 51 2 := ⟨_, _, _, rfl, by decide, uwX12, zin (zt6 (List.mem_of_getElem? (i := 87) (by decide +kernel))) rfl, rfl⟩
theorem plX12_105 : zPl RX12 105 12 51 2 (.array .int) true := ⟨_, _, _, tyX12, rfl, by decide, uwX12, zin (zt6 (List.mem_of_getElem? (i := 87) (by decide +kernel))) rfl, rfl, tyX12_ok, nmX12, rfl, by decide +kernel, fun _ => rfl⟩
theorem flX12_108 : zFl RX12 108 12 52 2 := ⟨_, _, _, rfl, by decide, uwX12, zin (zt6 (List.mem_of_getElem? (i := 88) (by decide +kernel))) rfl, rfl⟩
theorem plX12_108 : zPl RX12 108 12 52 2 (.array .int) true := ⟨_, _, _, tyX12, rfl, by decide, uwX12, zin (zt6 (List.mem_of_getElem? (i := 88) (by decide +kernel))) rfl, rfl, tyX12_ok, nmX12, rfl, by decide +kernel, fun _ => rfl⟩
theorem flX12_111 : zFl RX12 111 12 54 2 := ⟨_, _, _, rfl, by decide, uwX12, zin (zt6 (List.mem_of_getElem? (i := 90) (by decide +kernel))) rfl, rfl⟩
theorem plX12_111 : zPl RX12 111 12 54 2 (.array .int) true := ⟨_, _, _, tyX12, rfl, by decide, uwX12, zin (zt6 (List.mem_of_getElem? (i := 90) (by decide +kernel))) rfl, rfl, tyX12_ok, nmX12, rfl, by decide +kernel, fun _ => rfl⟩
theorem flX12_114 : zFl RX12 114 12 56 2 := ⟨_, _, _, rfl, by decide, uwX12, zin (zt6 (List.mem_of_getElem? (i := 92) (by decide +kernel))) rfl, rfl⟩
theorem plX12_114 : zPl RX12 114 12 56 2 (.array .int) true := ⟨_, _, _, tyX12, rfl, by decide, uwX12, zin (zt6 (List.mem_of_getElem? (i := 92) (by decide +kernel))) rfl, rfl, tyX12_ok, nmX12, rfl, by decide +kernel, fun _ => rfl⟩
theorem flX12_117 : zFl RX12 117 12 4 1 := ⟨_, _, _, rfl, by decide, uwX12, zin (zt6 (List.mem_of_getElem? (i := 40) (by decide +kernel))) rfl, rfl⟩
theorem plX12_117 : zPl RX12 117 12 4 1 .long false := ⟨_, _, _, tyX12, rfl, by decide, uwX12, zin (zt6 (List.mem_of_getElem? (i := 40) (by decide +kernel))) rfl, rfl, tyX12_ok, nmX12, rfl, by decide +kernel, fun _ => rfl⟩
theorem flX12_121 : zFl RX12 121 12 24 0 := ⟨_, _, _, rfl, by decide, uwX12, zin (zt6 (List.mem_of_getElem? (i := 60) (by decide +kernel))) rfl, rfl⟩
theorem plX12_121 : zPl RX12 121 12 24 0 .int false := ⟨_, _, _, tyX12, rfl, by decide, uwX12, zin (zt6 (List.mem_of_getElem? (i := 60) (by decide +kernel))) rfl, rfl, tyX12_ok, nmX12, rfl, by decide +kernel, fun _ => rfl⟩
theorem flX12_125 : zFl RX12 125 12 25 0 := ⟨_, _, _, rfl, by decide, uwX12, zin (zt6 (List.mem_of_getElem? (i := 61) (by decide +kernel))) rfl, rfl⟩
theorem plX12_125 : zPl RX12 125 12 25 0 .int false := ⟨_, _, _, tyX12, rfl, by decide, uwX12, zin (zt6 (List.mem_of_getElem? (i := 61) (by decide +kernel))) rfl, rfl, tyX12_ok, nmX12, rfl, by decide +kernel, fun _ => rfl⟩
theorem flX12_128 : zFl RX12 128 12 0 0 := ⟨_, _, _, rfl, by decide, uwX12, zin (zt6 (List.mem_of_getElem? (i := 36) (by decide +kernel))) rfl, rfl⟩
theorem plX12_128 : zPl RX12 128 12 0 0 .int false := ⟨_, _, _, tyX12, rfl, by decide, uwX12, zin (zt6 (List.mem_of_getElem? (i := 36) (by decide +kernel))) rfl, rfl, tyX12_ok, nmX12, rfl, by decide +kernel, fun _ => rfl⟩
theorem flX12_135 : zFl RX12 135 12 2 0 := ⟨_, _, _, rfl, by decide, uwX12, zin (zt6 (List.mem_of_getElem? (i := 38) (by decide +kernel))) rfl, rfl⟩
theorem plX12_135 : zPl RX12 135 12 2 0 .int false := ⟨_, _, _, tyX12, rfl, by decide, uwX12, zin (zt6 (List.mem_of_getElem? (i := 38) (by decide +kernel))) rfl, rfl, tyX12_ok, nmX12, rfl, by decide +kernel, fun _ => rfl⟩
theorem flX12_138 : zFl RX12 138 12 3 1 := ⟨_, _, _, rfl, by decide, uwX12, zin (zt6 (List.mem_of_getElem? (i := 39) (by decide +kernel))) rfl, rfl⟩
theorem plX12_138 : zPl RX12 138 12 3 1 .long false := ⟨_, _, _, tyX12, rfl, by decide, uwX12, zin (zt6 (List.mem_of_getElem? (i := 39) (by decide +kernel))) rfl, rfl, tyX12_ok, nmX12, rfl, by decide +kernel, fun _ => rfl⟩
theorem flX12_159 : zFl RX12 159 12 16 0 := ⟨_, _, _, rfl, by decide, uwX12, zin (zt6 (List.mem_of_getElem? (i := 52) (by decide +kernel))) rfl, rfl⟩
theorem plX12_159 : zPl RX12 159 12 16 0 .int false := ⟨_, _, _, tyX12, rfl, by decide, uwX12, zin (zt6 (List.mem_of_getElem? (i := 52) (by decide +kernel))) rfl, rfl, tyX12_ok, nmX12, rfl, by decide +kernel, fun _ => rfl⟩
theorem flX12_165 : zFl RX12 165 12 17 0 := ⟨_, _, _, rfl, by decide, uwX12, zin (zt6 (List.mem_of_getElem? (i := 53) (by decide +kernel))) rfl, rfl⟩
theorem plX12_165 : zPl RX12 165 12 17 0 .int false := ⟨_, _, _, tyX12, rfl, by decide, uwX12, zin (zt6 (List.mem_of_getElem? (i := 53) (by decide +kernel))) rfl, rfl, tyX12_ok, nmX12, rfl, by decide +kernel, fun _ => rfl⟩
theorem flX12_168 : zFl RX12 168 12 18 0 := ⟨_, _, _, rfl, by decide, uwX12, zin (zt6 (List.mem_of_getElem? (i := 54) (by decide +kernel))) rfl, rfl⟩
theorem plX12_168 : zPl RX12 168 12 18 0 .int false := ⟨_, _, _, tyX12, rfl, by decide, uwX12, zin (zt6 (List.mem_of_getElem? (i := 54) (by decide +kernel))) rfl, rfl, tyX12_ok, nmX12, rfl, by decide +kernel, fun _ => rfl⟩
theorem flX12_174 : zFl RX12 174 12 19 0 := ⟨_, _, _, rfl, by decide, uwX12, zin (zt6 (List.mem_of_getElem? (i := 55) (by decide +kernel))) rfl, rfl⟩
theorem plX12_174 : zPl RX12 174 12 19 0 .int false := ⟨_, _, _, tyX12, rfl, by decide, uwX12, zin (zt6 (List.mem_of_getElem? (i := 55) (by decide +kernel))) rfl, rfl, tyX12_ok, nmX12, rfl, by decide +kernel, fun _ => rfl⟩
theorem flX12_181 : zFl RX12 181 12 20 0 := ⟨_, _, _, rfl, by decide, uwX12, zin (zt6 (List.mem_of_getElem? (i := 56) (by decide +kernel))) rfl, rfl⟩
theorem plX12_181 : zPl RX12 181 12 20 0 .int false := ⟨_, _, _, tyX12, rfl, by decide, uwX12, zin (zt6 (List.mem_of_getElem? (i := 56) (by decide +kernel))) rfl, rfl, tyX12_ok, nmX12, rfl, by decide +kernel, fun _ => rfl⟩
theorem flX12_193 : zFl RX12 193 12 10 0 := ⟨_, _, _, rfl, by decide, uwX12, zin (zt6 (List.mem_of_getElem? (i := 46) (by decide +kernel))) rfl, rfl⟩
theorem plX12_193 : zPl RX12 193 12 10 0 .int false := ⟨_, _, _, tyX12, rfl, by decide, uwX12, zin (zt6 (List.mem_of_getElem? (i := 46) (by decide +kernel))) rfl, rfl, tyX12_ok, nmX12, rfl, by decide +kernel, fun _ => rfl⟩
theorem flX12_196 : zFl RX12 196 12 11 0 := ⟨_, _, _, rfl, by decide, uwX12, zin (zt6 (List.mem_of_getElem? (i := 47) (by decide +kernel))) rfl, rfl⟩
theorem plX12_196 : zPl RX12 196 12 11 0 .int false := ⟨_, _, _, tyX12, rfl, by decide, uwX12, zin (zt6 (List.mem_of_getElem? (i := 47) (by decide +kernel))) rfl, rfl, tyX12_ok, nmX12, rfl, by decide +kernel, fun _ => rfl⟩
theorem flX12_199 : zFl RX12 199 12 12 0 := ⟨_, _, _, rfl, by decide, uwX12, zin (zt6 (List.mem_of_getElem? (i := 48) (by decide +kernel))) rfl, rfl⟩
theorem plX12_199 : zPl RX12 199 12 12 0 .int false := ⟨_, _, _, tyX12, rfl, by decide, uwX12, zin (zt6 (List.mem_of_getElem? (i := 48) (by decide +kernel))) rfl, rfl, tyX12_ok, nmX12, rfl, by decide +kernel, fun _ => rfl⟩
theorem flX12_202 : zFl RX12 202 12 33 0 := ⟨_, _, _, rfl, by decide, uwX12, zin (zt6 (List.mem_of_getElem? (i := 69) (by decide +kernel))) rfl, rfl⟩
theorem plX12_202 : zPl RX12 202 12 33 0 .int false := ⟨_, _, _, tyX12, rfl, by decide, uwX12, zin (zt6 (List.mem_of_getElem? (i := 69) (by decide +kernel))) rfl, rfl, tyX12_ok, nmX12, rfl, by decide +kernel, fun _ => rfl⟩
theorem flX12_205 : zFl RX12 205 12 55 0 := ⟨_, _, _, rfl, by decide, uwX12, zin (zt6 (List.mem_of_getElem? (i := 91) (by decide +kernel))) rfl, rfl⟩
theorem plX12_205 : zPl RX12 205 12 55 0 .int false := ⟨_, _, _, tyX12, rfl, by decide, uwX12, zin (zt6 (List.mem_of_getElem? (i := 91) (by decide +kernel))) rfl, rfl, tyX12_ok, nmX12, rfl, by decide +kernel, fun _ => rfl⟩
theorem flX12_211 : zFl RX12 211 12 26 0 := ⟨_, _, _, rfl, by decide, uwX12, zin (zt6 (List.mem_of_getElem? (i := 62) (by decide +kernel))) rfl, rfl⟩
theorem plX12_211 : zPl RX12 211 12 26 0 .int false := ⟨_, _, _, tyX12, rfl, by decide, uwX12, zin (zt6 (List.mem_of_getElem? (i := 62) (by decide +kernel))) rfl, rfl, tyX12_ok, nmX12, rfl, by decide +kernel, fun _ => rfl⟩
theorem flX12_214 : zFl RX12 214 12 27 0 := ⟨_, _, _, rfl, by decide, uwX12, zin (zt6 (List.mem_of_getElem? (i := 63) (by decide +kernel))) rfl, rfl⟩
theorem plX12_214 : zPl RX12 214 12 27 0 .int false := ⟨_, _, _, tyX12, rfl, by decide, uwX12, zin (zt6 (List.mem_of_getElem? (i := 63) (by decide +kernel))) rfl, rfl, tyX12_ok, nmX12, rfl, by decide +kernel, fun _ => rfl⟩
theorem flX12_225 : zFl RX12 225 12 29 0 := ⟨_, _, _, rfl, by decide, uwX12, zin (zt6 (List.mem_of_getElem? (i := 65) (by decide +kernel))) rfl, rfl⟩
theorem plX12_225 : zPl RX12 225 12 29 0 .int false := ⟨_, _, _, tyX12, rfl, by decide, uwX12, zin (zt6 (List.mem_of_getElem? (i := 65) (by decide +kernel))) rfl, rfl, tyX12_ok, nmX12, rfl, by decide +kernel, fun _ => rfl⟩
theorem flX12_335 : zFl RX12 335 12 41 0 := ⟨_, _, _, rfl, by decide, uwX12, zin (zt6 (List.mem_of_getElem? (i := 77) (by decide +kernel))) rfl, rfl⟩
theorem plX12_335 : zPl RX12 335 12 41 0 .int false := ⟨_, _, _, tyX12, rfl, by decide, uwX12, zin (zt6 (List.mem_of_getElem? (i := 77) (by decide +kernel))) rfl, rfl, tyX12_ok, nmX12, rfl, by decide +kernel, fun _ => rfl⟩
theorem flX12_368 : zFl RX12 368 12 49 0 := ⟨_, _, _, rfl, by decide, uwX12, zin (zt6 (List.mem_of_getElem? (i := 85) (by decide +kernel))) rfl, rfl⟩
theorem plX12_368 : zPl RX12 368 12 49 0 .int false := ⟨_, _, _, tyX12, rfl, by decide, uwX12, zin (zt6 (List.mem_of_getElem? (i := 85) (by decide +kernel))) rfl, rfl, tyX12_ok, nmX12, rfl, by decide +kernel, fun _ => rfl⟩
theorem flX12_381 : zFl RX12 381 12 53 0 := ⟨_, _, _, rfl, by decide, uwX12, zin (zt6 (List.mem_of_getElem? (i := 89) (by decide +kernel))) rfl, rfl⟩
theorem plX12_381 : zPl RX12 381 12 53 0 .int false := ⟨_, _, _, tyX12, rfl, by decide, uwX12, zin (zt6 (List.mem_of_getElem? (i := 89) (by decide +kernel))) rfl, rfl, tyX12_ok, nmX12, rfl, by decide +kernel, fun _ => rfl⟩
theorem flX12_387 : zFl RX12 387 12 57 0 := ⟨_, _, _, rfl, by decide, uwX12, zin (zt6 (List.mem_of_getElem? (i := 93) (by decide +kernel))) rfl, rfl⟩
theorem plX12_387 : zPl RX12 387 12 57 0 .int false := ⟨_, _, _, tyX12, rfl, by decide, uwX12, zin (zt6 (List.mem_of_getElem? (i := 93) (by decide +kernel))) rfl, rfl, tyX12_ok, nmX12, rfl, by decide +kernel, fun _ => rfl⟩
theorem flX12_406 : zFl RX12 406 12 58 1 := ⟨_, _, _, rfl, by decide, uwX12, zin (zt6 (List.mem_of_getElem? (i := 94) (by decide +kernel))) rfl, rfl⟩
theorem plX12_406 : zPl RX12 406 12 58 1 .long false := ⟨_, _, _, tyX12, rfl, by decide, uwX12, zin (zt6 (List.mem_of_getElem? (i := 94) (by decide +kernel))) rfl, rfl, tyX12_ok, nmX12, rfl, by decide +kernel, fun _ => rfl⟩
theorem flX2_9 : zFl RX2 9 2 3 2 := ⟨_, _, _, rfl, by decide, uwX2, zin (zt1 (List.mem_of_getElem? (i := 107) (by decide +kernel))) rfl, rfl⟩
theorem plX2_9 : zPl RX2 9 2 3 2 (.array .int) true := ⟨_, _, _, tyX2, rfl, by decide, uwX2, zin (zt1 (List.mem_of_getElem? (i := 107) (by decide +kernel))) rfl, rfl, tyX2_ok, nmX2, rfl, by decide +kernel, fun _ => rfl⟩
theorem flX2_15 : zFl RX2 15 2 4 2 := ⟨_, _, _, rfl, by decide, uwX2, zin (zt1 (List.mem_of_getElem? (i := 108) (by decide +kernel))) rfl, rfl⟩
theorem plX2_15 : zPl RX2 15 2 4 2 (.array .int) true := ⟨_, _, _, tyX2, rfl, by decide, uwX2, zin (zt1 (List.mem_of_getElem? (i := 108) (by decide +kernel))) rfl, rfl, tyX2_ok, nmX2, rfl, by decide +kernel, fun _ => rfl⟩
theorem flX2_18 : zFl RX2 18 2 5 2 := ⟨_, _, _, rfl, by decide, uwX2, zin (zt1 (List.mem_of_getElem? (i := 111) (by decide +kernel))) rfl, rfl⟩
theorem plX2_18 : zPl RX2 18 2 5 2 (.array .int) true := ⟨_, _, _, tyX2, rfl, by decide, uwX2, zin (zt1 (List.mem_of_getElem? (i := 111) (by decide +kernel))) rfl, rfl, tyX2_ok, nmX2, rfl, by decide +kernel, fun _ => rfl⟩
theorem flX2_21 : zFl RX2 21 2 6 2 := ⟨_, _, _, rfl, by decide, uwX2, zin (zt1 (List.mem_of_getElem? (i := 113) (by decide +kernel))) rfl, rfl⟩
theorem plX2_21 : zPl RX2 21 2 6 2 (.array .int) true := ⟨_, _, _, tyX2, rfl, by decide, uwX2, zin (zt1 (List.mem_of_getElem? (i := 113) (by decide +kernel))) rfl, rfl, tyX2_ok, nmX2, rfl, by decide +kernel, fun _ => rfl⟩
theorem flX2_24 : zFl RX2 24 2 7 2 := ⟨_, _, _, rfl, by decide, uwX2, zin (zt1 (List.mem_of_getElem? (i := 116) (by decide +kernel))) rfl, rfl⟩
theorem plX2_24 : zPl RX2 24 2 7 2 (.array .int) true := ⟨_, _, _, tyX2, rfl, by decide, uwX2, zin (zt1 (List.mem_of_getElem? (i := 116) (by decide +kernel))) rfl, rfl, tyX2_ok, nmX2, rfl, by decide +kernel, fun _ => rfl⟩
theorem flX2_27 : zFl RX2 27 2 8 2 := ⟨_, _, _, rfl, by decide, uwX2, zin (zt1 (List.mem_of_getElem? (i := 119) (by decide +kernel))) rfl, rfl⟩
theorem plX2_27 : zPl RX2 27 2 8 2 (.array .int) true := ⟨_, _, _, tyX2, rfl, by decide, uwX2, zin (zt1 (List.mem_of_getElem? (i := 119) (by decide +kernel))) rfl, rfl, tyX2_ok, nmX2, rfl, by decide +kernel, fun _ => rfl⟩
theorem flX2_30 : zFl RX2 30 2 9 2 := ⟨_, _, _, rfl, by decide, uwX2, zin (zt1 (List.mem_of_getElem? (i := 121) (by decide +kernel))) rfl, rfl⟩
theorem plX2_30 : zPl RX2 30 2 9 2 (.array .int) true := ⟨_, _, _, tyX2, rfl, by decide, uwX2, zin (zt1 (List.mem_of_getElem? (i := 121) (by decide +kernel))) rfl, rfl, tyX2_ok, nmX2, rfl, by decide +kernel, fun _ => rfl⟩
theorem flX2_33 : zFl RX2 33 2 10 2 := ⟨_, _, _, rfl, by decide, uwX2, zin (zt1 (List.mem_of_getElem? (i := 124) (by decide +kernel))) rfl, rfl⟩
theorem plX2_33 : zPl RX2 33 2 10 2 (.array .int) true := ⟨_, _, _, tyX2, rfl, by decide, uwX2, zin (zt1 (List.mem_of_getElem? (i := 124) (by decide +kernel))) rfl, rfl, tyX2_ok, nmX2, rfl, by decide +kernel, fun _ => rfl⟩
theorem flX2_36 : zFl RX2 36 2 0 0 := ⟨_, _, _, rfl, by decide, uwX2, zin (zt1 (List.mem_of_getElem? (i := 95) (by decide +kernel))) rfl, rfl⟩
theorem plX2_36 : zPl RX2 36 2 0 0 .int false := ⟨_, _, _, tyX2, rfl, by decide, uwX2, zin (zt1 (List.mem_of_getElem? (i := 95) (by decide +kernel))) rfl, rfl, tyX2_ok, nmX2, rfl, by decide +kernel, fun _ => rfl⟩
theorem flX2_40 : zFl RX2 40 2 1 0 := ⟨_, _, _, rfl, by decide, uwX2, zin (zt1 (List.mem_of_getElem? (i := 98) (by decide +kernel))) rfl, rfl⟩
theorem plX2_40 : zPl RX2 40 2 1 0 .int false := ⟨_, _, _, tyX2, rfl, by decide, uwX2, zin (zt1 (List.mem_of_getElem? (i := 98) (by decide +kernel))) rfl, rfl, tyX2_ok, nmX2, rfl, by decide +kernel, fun _ => rfl⟩
theorem flX2_43 : zFl RX2 43 2 2 0 := ⟨_, _, _, rfl, by decide, uwX2, zin (zt1 (List.mem_of_getElem? (i := 103) (by decide +kernel))) rfl, rfl⟩
theorem plX2_43 : zPl RX2 43 2 2 0 .int false := ⟨_, _, _, tyX2, rfl, by decide, uwX2, zin (zt1 (List.mem_of_getElem? (i := 103) (by decide +kernel))) rfl, rfl, tyX2_ok, nmX2, rfl, by decide +kernel, fun _ => rfl⟩
theorem slX2_73 : Cond.fieldLink RX2 73 "HandBeasts$Hands" "STEP_X" "[I" ∈ zTB := zin (zt3 (List.mem_of_getElem? (i := 171) (by decide +kernel))) rfl
theorem slX2_76 : Cond.fieldLink RX2 76 "HandBeasts$Hands" "STEP_Y" "[I" ∈ zTB := zin (zt3 (List.mem_of_getElem? (i := 173) (by decide +kernel))) rfl
theorem flX3_9 : zFl RX3 9 3 0 0 := ⟨_, _, _, rfl, by decide, uwX3, zin (zt1 (List.mem_of_getElem? (i := 155) (by decide +kernel))) rfl, rfl⟩
theorem plX3_9 : zPl RX3 9 3 0 0 .int false := ⟨_, _, _, tyX3, rfl, by decide, uwX3, zin (zt1 (List.mem_of_getElem? (i := 155) (by decide +kernel))) rfl, rfl, tyX3_ok, nmX3, rfl, by decide +kernel, fun _ => rfl⟩
theorem flX3_15 : zFl RX3 15 3 1 0 := ⟨_, _, _, rfl, by decide, uwX3, zin (zt1 (List.mem_of_getElem? (i := 156) (by decide +kernel))) rfl, rfl⟩
theorem plX3_15 : zPl RX3 15 3 1 0 .int false := ⟨_, _, _, tyX3, rfl, by decide, uwX3, zin (zt1 (List.mem_of_getElem? (i := 156) (by decide +kernel))) rfl, rfl, tyX3_ok, nmX3, rfl, by decide +kernel, fun _ => rfl⟩
theorem flX3_18 : zFl RX3 18 3 2 0 := ⟨_, _, _, rfl, by decide, uwX3, zin (zt1 (List.mem_of_getElem? (i := 157) (by decide +kernel))) rfl, rfl⟩
theorem plX3_18 : zPl RX3 18 3 2 0 .int false := ⟨_, _, _, tyX3, rfl, by decide, uwX3, zin (zt1 (List.mem_of_getElem? (i := 157) (by decide +kernel))) rfl, rfl, tyX3_ok, nmX3, rfl, by decide +kernel, fun _ => rfl⟩
theorem flX4_11 : zFl RX4 11 4 1 2 := ⟨_, _, _, rfl, by decide, uwX4, zin (zt2 (List.mem_of_getElem? (i := 26) (by decide +kernel))) rfl, rfl⟩
theorem plX4_11 : zPl RX4 11 4 1 2 (.array (.array .int)) true := ⟨_, _, _, tyX4, rfl, by decide, uwX4, zin (zt2 (List.mem_of_getElem? (i := 26) (by decide +kernel))) rfl, rfl, tyX4_ok, nmX4, rfl, by decide +kernel, fun _ => rfl⟩
theorem flX4_16 : zFl RX4 16 4 3 2 := ⟨_, _, _, rfl, by decide, uwX4, zin (zt2 (List.mem_of_getElem? (i := 30) (by decide +kernel))) rfl, rfl⟩
theorem plX4_16 : zPl RX4 16 4 3 2 (.array .int) true := ⟨_, _, _, tyX4, rfl, by decide, uwX4, zin (zt2 (List.mem_of_getElem? (i := 30) (by decide +kernel))) rfl, rfl, tyX4_ok, nmX4, rfl, by decide +kernel, fun _ => rfl⟩
theorem flX4_20 : zFl RX4 20 4 4 2 := ⟨_, _, _, rfl, by decide, uwX4, zin (zt2 (List.mem_of_getElem? (i := 32) (by decide +kernel))) rfl, rfl⟩
theorem plX4_20 : zPl RX4 20 4 4 2 (.array .int) true := ⟨_, _, _, tyX4, rfl, by decide, uwX4, zin (zt2 (List.mem_of_getElem? (i := 32) (by decide +kernel))) rfl, rfl, tyX4_ok, nmX4, rfl, by decide +kernel, fun _ => rfl⟩
theorem flX4_23 : zFl RX4 23 4 5 2 := ⟨_, _, _, rfl, by decide, uwX4, zin (zt2 (List.mem_of_getElem? (i := 34) (by decide +kernel))) rfl, rfl⟩
theorem plX4_23 : zPl RX4 23 4 5 2 (.array .int) true := ⟨_, _, _, tyX4, rfl, by decide, uwX4, zin (zt2 (List.mem_of_getElem? (i := 34) (by decide +kernel))) rfl, rfl, tyX4_ok, nmX4, rfl, by decide +kernel, fun _ => rfl⟩
theorem flX4_26 : zFl RX4 26 4 6 2 := ⟨_, _, _, rfl, by decide, uwX4, zin (zt2 (List.mem_of_getElem? (i := 36) (by decide +kernel))) rfl, rfl⟩
theorem plX4_26 : zPl RX4 26 4 6 2 (.array .int) true := ⟨_, _, _, tyX4, rfl, by decide, uwX4, zin (zt2 (List.mem_of_getElem? (i := 36) (by decide +kernel))) rfl, rfl, tyX4_ok, nmX4, rfl, by decide +kernel, fun _ => rfl⟩
theorem flX4_29 : zFl RX4 29 4 7 2 := ⟨_, _, _, rfl, by decide, uwX4, zin (zt2 (List.mem_of_getElem? (i := 37) (by decide +kernel))) rfl, rfl⟩
theorem plX4_29 : zPl RX4 29 4 7 2 (.array .int) true := ⟨_, _, _, tyX4, rfl, by decide, uwX4, zin (zt2 (List.mem_of_getElem? (i := 37) (by decide +kernel))) rfl, rfl, tyX4_ok, nmX4, rfl, by decide +kernel, fun _ => rfl⟩
theorem flX4_32 : zFl RX4 32 4 8 2 := ⟨_, _, _, rfl, by decide, uwX4, zin (zt2 (List.mem_of_getElem? (i := 38) (by decide +kernel))) rfl, rfl⟩
theorem plX4_32 : zPl RX4 32 4 8 2 (.array .int) true := ⟨_, _, _, tyX4, rfl, by decide, uwX4, zin (zt2 (List.mem_of_getElem? (i := 38) (by decide +kernel))) rfl, rfl, tyX4_ok, nmX4, rfl, by decide +kernel, fun _ => rfl⟩
theorem flX4_35 : zFl RX4 35 4 10 2 := ⟨_, _, _, rfl, by decide, uwX4, zin (zt2 (List.mem_of_getElem? (i := 41) (by decide +kernel))) rfl, rfl⟩
theorem plX4_35 : zPl RX4 35 4 10 2 (.array .int) true := ⟨_, _, _, tyX4, rfl, by decide, uwX4, zin (zt2 (List.mem_of_getElem? (i := 41) (by decide +kernel))) rfl, rfl, tyX4_ok, nmX4, rfl, by decide +kernel, fun _ => rfl⟩
theorem flX4_38 : zFl RX4 38 4 0 0 := ⟨_, _, _, rfl, by decide, uwX4, zin (zt2 (List.mem_of_getElem? (i := 24) (by decide +kernel))) rfl, rfl⟩
theorem plX4_38 : zPl RX4 38 4 0 0 .int false := ⟨_, _, _, tyX4, rfl, by decide, uwX4, zin (zt2 (List.mem_of_getElem? (i := 24) (by decide +kernel))) rfl, rfl, tyX4_ok, nmX4, rfl, by decide +kernel, fun _ => rfl⟩
theorem flX4_42 : zFl RX4 42 4 2 0 := ⟨_, _, _, rfl, by decide, uwX4, zin (zt2 (List.mem_of_getElem? (i := 28) (by decide +kernel))) rfl, rfl⟩
theorem plX4_42 : zPl RX4 42 4 2 0 .int false := ⟨_, _, _, tyX4, rfl, by decide, uwX4, zin (zt2 (List.mem_of_getElem? (i := 28) (by decide +kernel))) rfl, rfl, tyX4_ok, nmX4, rfl, by decide +kernel, fun _ => rfl⟩
theorem flX4_49 : zFl RX4 49 1 0 1 := ⟨_, _, _, rfl, by decide, uwX1, zin (zt1 (List.mem_of_getElem? (i := 182) (by decide +kernel))) rfl, rfl⟩
theorem plX4_49 : zPl RX4 49 1 0 1 .long false := ⟨_, _, _, tyX1, rfl, by decide, uwX1, zin (zt1 (List.mem_of_getElem? (i := 182) (by decide +kernel))) rfl, rfl, tyX1_ok, nmX1, rfl, by decide +kernel, fun _ => by contradiction⟩
theorem flX4_55 : zFl RX4 55 1 1 1 := ⟨_, _, _, rfl, by decide, uwX1, zin (zt1 (List.mem_of_getElem? (i := 188) (by decide +kernel))) rfl, rfl⟩
theorem plX4_55 : zPl RX4 55 1 1 1 .long false := ⟨_, _, _, tyX1, rfl, by decide, uwX1, zin (zt1 (List.mem_of_getElem? (i := 188) (by decide +kernel))) rfl, rfl, tyX1_ok, nmX1, rfl, by decide +kernel, fun _ => by contradiction⟩
theorem flX4_65 : zFl RX4 65 0 2 0 := ⟨_, _, _, rfl, by decide, uwX0, zin (zt2 (List.mem_of_getElem? (i := 2) (by decide +kernel))) rfl, rfl⟩
theorem plX4_65 : zPl RX4 65 0 2 0 .int false := ⟨_, _, _, tyX0, rfl, by decide, uwX0, zin (zt2 (List.mem_of_getElem? (i := 2) (by decide +kernel))) rfl, rfl, tyX0_ok, nmX0, rfl, by decide +kernel, fun _ => by contradiction⟩
theorem flX4_68 : zFl RX4 68 0 3 0 := ⟨_, _, _, rfl, by decide, uwX0, zin (zt2 (List.mem_of_getElem? (i := 5) (by decide +kernel))) rfl, rfl⟩
theorem plX4_68 : zPl RX4 68 0 3 0 .boolean false := ⟨_, _, _, tyX0, rfl, by decide, uwX0, zin (zt2 (List.mem_of_getElem? (i := 5) (by decide +kernel))) rfl, rfl, tyX0_ok, nmX0, rfl, by decide +kernel, fun _ => by contradiction⟩
theorem flX4_72 : zFl RX4 72 4 9 0 := ⟨_, _, _, rfl, by decide, uwX4, zin (zt2 (List.mem_of_getElem? (i := 39) (by decide +kernel))) rfl, rfl⟩
theorem plX4_72 : zPl RX4 72 4 9 0 .int false := ⟨_, _, _, tyX4, rfl, by decide, uwX4, zin (zt2 (List.mem_of_getElem? (i := 39) (by decide +kernel))) rfl, rfl, tyX4_ok, nmX4, rfl, by decide +kernel, fun _ => rfl⟩
theorem flX5_9 : zFl RX5 9 5 0 2 := ⟨_, _, _, rfl, by decide, uwX5, zin (zt1 (List.mem_of_getElem? (i := 195) (by decide +kernel))) rfl, rfl⟩
theorem plX5_9 : zPl RX5 9 5 0 2 (.array .int) true := ⟨_, _, _, tyX5, rfl, by decide, uwX5, zin (zt1 (List.mem_of_getElem? (i := 195) (by decide +kernel))) rfl, rfl, tyX5_ok, nmX5, rfl, by decide +kernel, fun _ => rfl⟩
theorem flX5_18 : zFl RX5 18 5 1 2 := ⟨_, _, _, rfl, by decide, uwX5, zin (zt1 (List.mem_of_getElem? (i := 197) (by decide +kernel))) rfl, rfl⟩
theorem plX5_18 : zPl RX5 18 5 1 2 (.object "HandBeasts$Cells") true := ⟨_, _, _, tyX5, rfl, by decide, uwX5, zin (zt1 (List.mem_of_getElem? (i := 197) (by decide +kernel))) rfl, rfl, tyX5_ok, nmX5, rfl, by decide +kernel, fun _ => rfl⟩
theorem flX5_22 : zFl RX5 22 5 2 2 := ⟨_, _, _, rfl, by decide, uwX5, zin (zt1 (List.mem_of_getElem? (i := 199) (by decide +kernel))) rfl, rfl⟩
theorem plX5_22 : zPl RX5 22 5 2 2 (.object "HandBeasts$Cells") true := ⟨_, _, _, tyX5, rfl, by decide, uwX5, zin (zt1 (List.mem_of_getElem? (i := 199) (by decide +kernel))) rfl, rfl, tyX5_ok, nmX5, rfl, by decide +kernel, fun _ => rfl⟩
theorem flX5_31 : zFl RX5 31 5 4 0 := ⟨_, _, _, rfl, by decide, uwX5, zin (zt1 (List.mem_of_getElem? (i := 203) (by decide +kernel))) rfl, rfl⟩
theorem plX5_31 : zPl RX5 31 5 4 0 .int false := ⟨_, _, _, tyX5, rfl, by decide, uwX5, zin (zt1 (List.mem_of_getElem? (i := 203) (by decide +kernel))) rfl, rfl, tyX5_ok, nmX5, rfl, by decide +kernel, fun _ => rfl⟩
theorem flX5_42 : zFl RX5 42 5 5 0 := ⟨_, _, _, rfl, by decide, uwX5, zin (zt1 (List.mem_of_getElem? (i := 205) (by decide +kernel))) rfl, rfl⟩
theorem plX5_42 : zPl RX5 42 5 5 0 .int false := ⟨_, _, _, tyX5, rfl, by decide, uwX5, zin (zt1 (List.mem_of_getElem? (i := 205) (by decide +kernel))) rfl, rfl, tyX5_ok, nmX5, rfl, by decide +kernel, fun _ => rfl⟩
theorem flX5_51 : zFl RX5 51 5 7 0 := ⟨_, _, _, rfl, by decide, uwX5, zin (zt1 (List.mem_of_getElem? (i := 209) (by decide +kernel))) rfl, rfl⟩
theorem plX5_51 : zPl RX5 51 5 7 0 .int false := ⟨_, _, _, tyX5, rfl, by decide, uwX5, zin (zt1 (List.mem_of_getElem? (i := 209) (by decide +kernel))) rfl, rfl, tyX5_ok, nmX5, rfl, by decide +kernel, fun _ => rfl⟩
theorem flX5_60 : zFl RX5 60 5 6 0 := ⟨_, _, _, rfl, by decide, uwX5, zin (zt1 (List.mem_of_getElem? (i := 207) (by decide +kernel))) rfl, rfl⟩
theorem plX5_60 : zPl RX5 60 5 6 0 .int false := ⟨_, _, _, tyX5, rfl, by decide, uwX5, zin (zt1 (List.mem_of_getElem? (i := 207) (by decide +kernel))) rfl, rfl, tyX5_ok, nmX5, rfl, by decide +kernel, fun _ => rfl⟩
theorem flX5_63 : zFl RX5 63 5 3 0 := ⟨_, _, _, rfl, by decide, uwX5, zin (zt1 (List.mem_of_getElem? (i := 201) (by decide +kernel))) rfl, rfl⟩
theorem plX5_63 : zPl RX5 63 5 3 0 .int false := ⟨_, _, _, tyX5, rfl, by decide, uwX5, zin (zt1 (List.mem_of_getElem? (i := 201) (by decide +kernel))) rfl, rfl, tyX5_ok, nmX5, rfl, by decide +kernel, fun _ => rfl⟩
theorem flX5_69 : zFl RX5 69 1 0 1 := ⟨_, _, _, rfl, by decide, uwX1, zin (zt1 (List.mem_of_getElem? (i := 181) (by decide +kernel))) rfl, rfl⟩
theorem plX5_69 : zPl RX5 69 1 0 1 .long false := ⟨_, _, _, tyX1, rfl, by decide, uwX1, zin (zt1 (List.mem_of_getElem? (i := 181) (by decide +kernel))) rfl, rfl, tyX1_ok, nmX1, rfl, by decide +kernel, fun _ => by contradiction⟩
theorem flX5_73 : zFl RX5 73 1 1 1 := ⟨_, _, _, rfl, by decide, uwX1, zin (zt1 (List.mem_of_getElem? (i := 187) (by decide +kernel))) rfl, rfl⟩
theorem plX5_73 : zPl RX5 73 1 1 1 .long false := ⟨_, _, _, tyX1, rfl, by decide, uwX1, zin (zt1 (List.mem_of_getElem? (i := 187) (by decide +kernel))) rfl, rfl, tyX1_ok, nmX1, rfl, by decide +kernel, fun _ => by contradiction⟩
theorem flX6_9 : zFl RX6 9 6 1 0 := ⟨_, _, _, rfl, by decide, uwX6, zin (zt2 (List.mem_of_getElem? (i := 76) (by decide +kernel))) rfl, rfl⟩
theorem plX6_9 : zPl RX6 9 6 1 0 .int false := ⟨_, _, _, tyX6, rfl, by decide, uwX6, zin (zt2 (List.mem_of_getElem? (i := 76) (by decide +kernel))) rfl, rfl, tyX6_ok, nmX6, rfl, by decide +kernel, fun _ => rfl⟩
theorem flX6_15 : zFl RX6 15 6 2 2 := ⟨_, _, _, rfl, by decide, uwX6, zin (zt2 (List.mem_of_getElem? (i := 78) (by decide +kernel))) rfl, rfl⟩
theorem plX6_15 : zPl RX6 15 6 2 2 (.array .int) true := ⟨_, _, _, tyX6, rfl, by decide, uwX6, zin (zt2 (List.mem_of_getElem? (i := 78) (by decide +kernel))) rfl, rfl, tyX6_ok, nmX6, rfl, by decide +kernel, fun _ => rfl⟩
theorem flX6_19 : zFl RX6 19 6 3 2 := ⟨_, _, _, rfl, by decide, uwX6, zin (zt2 (List.mem_of_getElem? (i := 80) (by decide +kernel))) rfl, rfl⟩
theorem plX6_19 : zPl RX6 19 6 3 2 (.array .int) true := ⟨_, _, _, tyX6, rfl, by decide, uwX6, zin (zt2 (List.mem_of_getElem? (i := 80) (by decide +kernel))) rfl, rfl, tyX6_ok, nmX6, rfl, by decide +kernel, fun _ => rfl⟩
theorem flX6_22 : zFl RX6 22 6 4 2 := ⟨_, _, _, rfl, by decide, uwX6, zin (zt2 (List.mem_of_getElem? (i := 82) (by decide +kernel))) rfl, rfl⟩
theorem plX6_22 : zPl RX6 22 6 4 2 (.array .byte) true := ⟨_, _, _, tyX6, rfl, by decide, uwX6, zin (zt2 (List.mem_of_getElem? (i := 82) (by decide +kernel))) rfl, rfl, tyX6_ok, nmX6, rfl, by decide +kernel, fun _ => rfl⟩
theorem flX6_26 : zFl RX6 26 6 5 2 := ⟨_, _, _, rfl, by decide, uwX6, zin (zt2 (List.mem_of_getElem? (i := 83) (by decide +kernel))) rfl, rfl⟩
theorem plX6_26 : zPl RX6 26 6 5 2 (.array .long) true := ⟨_, _, _, tyX6, rfl, by decide, uwX6, zin (zt2 (List.mem_of_getElem? (i := 83) (by decide +kernel))) rfl, rfl, tyX6_ok, nmX6, rfl, by decide +kernel, fun _ => rfl⟩
theorem flX6_30 : zFl RX6 30 6 6 2 := ⟨_, _, _, rfl, by decide, uwX6, zin (zt2 (List.mem_of_getElem? (i := 84) (by decide +kernel))) rfl, rfl⟩
theorem plX6_30 : zPl RX6 30 6 6 2 (.array .long) true := ⟨_, _, _, tyX6, rfl, by decide, uwX6, zin (zt2 (List.mem_of_getElem? (i := 84) (by decide +kernel))) rfl, rfl, tyX6_ok, nmX6, rfl, by decide +kernel, fun _ => rfl⟩
theorem flX6_33 : zFl RX6 33 6 7 2 := ⟨_, _, _, rfl, by decide, uwX6, zin (zt2 (List.mem_of_getElem? (i := 85) (by decide +kernel))) rfl, rfl⟩
theorem plX6_33 : zPl RX6 33 6 7 2 (.array .long) true := ⟨_, _, _, tyX6, rfl, by decide, uwX6, zin (zt2 (List.mem_of_getElem? (i := 85) (by decide +kernel))) rfl, rfl, tyX6_ok, nmX6, rfl, by decide +kernel, fun _ => rfl⟩
theorem flX6_36 : zFl RX6 36 6 8 2 := ⟨_, _, _, rfl, by decide, uwX6, zin (zt2 (List.mem_of_getElem? (i := 86) (by decide +kernel))) rfl, rfl⟩
theorem plX6_36 : zPl RX6 36 6 8 2 (.array .long) true := ⟨_, _, _, tyX6, rfl, by decide, uwX6, zin (zt2 (List.mem_of_getElem? (i := 86) (by decide +kernel))) rfl, rfl, tyX6_ok, nmX6, rfl, by decide +kernel, fun _ => rfl⟩
theorem flX6_39 : zFl RX6 39 6 9 2 := ⟨_, _, _, rfl, by decide, uwX6, zin (zt2 (List.mem_of_getElem? (i := 87) (by decide +kernel))) rfl, rfl⟩
theorem plX6_39 : zPl RX6 39 6 9 2 (.array .int) true := ⟨_, _, _, tyX6, rfl, by decide, uwX6, zin (zt2 (List.mem_of_getElem? (i := 87) (by decide +kernel))) rfl, rfl, tyX6_ok, nmX6, rfl, by decide +kernel, fun _ => rfl⟩
theorem flX6_42 : zFl RX6 42 6 10 2 := ⟨_, _, _, rfl, by decide, uwX6, zin (zt2 (List.mem_of_getElem? (i := 88) (by decide +kernel))) rfl, rfl⟩
theorem plX6_42 : zPl RX6 42 6 10 2 (.array .byte) true := ⟨_, _, _, tyX6, rfl, by decide, uwX6, zin (zt2 (List.mem_of_getElem? (i := 88) (by decide +kernel))) rfl, rfl, tyX6_ok, nmX6, rfl, by decide +kernel, fun _ => rfl⟩
theorem flX6_45 : zFl RX6 45 6 11 2 := ⟨_, _, _, rfl, by decide, uwX6, zin (zt2 (List.mem_of_getElem? (i := 89) (by decide +kernel))) rfl, rfl⟩
theorem plX6_45 : zPl RX6 45 6 11 2 (.array .long) true := ⟨_, _, _, tyX6, rfl, by decide, uwX6, zin (zt2 (List.mem_of_getElem? (i := 89) (by decide +kernel))) rfl, rfl, tyX6_ok, nmX6, rfl, by decide +kernel, fun _ => rfl⟩
theorem flX6_48 : zFl RX6 48 6 12 2 := ⟨_, _, _, rfl, by decide, uwX6, zin (zt2 (List.mem_of_getElem? (i := 90) (by decide +kernel))) rfl, rfl⟩
theorem plX6_48 : zPl RX6 48 6 12 2 (.array .long) true := ⟨_, _, _, tyX6, rfl, by decide, uwX6, zin (zt2 (List.mem_of_getElem? (i := 90) (by decide +kernel))) rfl, rfl, tyX6_ok, nmX6, rfl, by decide +kernel, fun _ => rfl⟩
theorem flX6_51 : zFl RX6 51 6 13 2 := ⟨_, _, _, rfl, by decide, uwX6, zin (zt2 (List.mem_of_getElem? (i := 91) (by decide +kernel))) rfl, rfl⟩
theorem plX6_51 : zPl RX6 51 6 13 2 (.array .long) true := ⟨_, _, _, tyX6, rfl, by decide, uwX6, zin (zt2 (List.mem_of_getElem? (i := 91) (by decide +kernel))) rfl, rfl, tyX6_ok, nmX6, rfl, by decide +kernel, fun _ => rfl⟩
theorem flX6_54 : zFl RX6 54 6 14 2 := ⟨_, _, _, rfl, by decide, uwX6, zin (zt2 (List.mem_of_getElem? (i := 92) (by decide +kernel))) rfl, rfl⟩
theorem plX6_54 : zPl RX6 54 6 14 2 (.array .long) true := ⟨_, _, _, tyX6, rfl, by decide, uwX6, zin (zt2 (List.mem_of_getElem? (i := 92) (by decide +kernel))) rfl, rfl, tyX6_ok, nmX6, rfl, by decide +kernel, fun _ => rfl⟩
theorem flX6_57 : zFl RX6 57 6 15 2 := ⟨_, _, _, rfl, by decide, uwX6, zin (zt2 (List.mem_of_getElem? (i := 93) (by decide +kernel))) rfl, rfl⟩
theorem plX6_57 : zPl RX6 57 6 15 2 (.array .int) true := ⟨_, _, _, tyX6, rfl, by decide, uwX6, zin (zt2 (List.mem_of_getElem? (i := 93) (by decide +kernel))) rfl, rfl, tyX6_ok, nmX6, rfl, by decide +kernel, fun _ => rfl⟩
theorem flX6_63 : zFl RX6 63 6 16 2 := ⟨_, _, _, rfl, by decide, uwX6, zin (zt2 (List.mem_of_getElem? (i := 94) (by decide +kernel))) rfl, rfl⟩
theorem plX6_63 : zPl RX6 63 6 16 2 (.object "HandBeasts$Cells") true := ⟨_, _, _, tyX6, rfl, by decide, uwX6, zin (zt2 (List.mem_of_getElem? (i := 94) (by decide +kernel))) rfl, rfl, tyX6_ok, nmX6, rfl, by decide +kernel, fun _ => rfl⟩
theorem flX6_67 : zFl RX6 67 2 2 0 := ⟨_, _, _, rfl, by decide, uwX2, zin (zt1 (List.mem_of_getElem? (i := 102) (by decide +kernel))) rfl, rfl⟩
theorem plX6_67 : zPl RX6 67 2 2 0 .int false := ⟨_, _, _, tyX2, rfl, by decide, uwX2, zin (zt1 (List.mem_of_getElem? (i := 102) (by decide +kernel))) rfl, rfl, tyX2_ok, nmX2, rfl, by decide +kernel, fun _ => by contradiction⟩
theorem flX6_75 : zFl RX6 75 2 1 0 := ⟨_, _, _, rfl, by decide, uwX2, zin (zt1 (List.mem_of_getElem? (i := 99) (by decide +kernel))) rfl, rfl⟩
theorem plX6_75 : zPl RX6 75 2 1 0 .int false := ⟨_, _, _, tyX2, rfl, by decide, uwX2, zin (zt1 (List.mem_of_getElem? (i := 99) (by decide +kernel))) rfl, rfl, tyX2_ok, nmX2, rfl, by decide +kernel, fun _ => by contradiction⟩
theorem flX6_82 : zFl RX6 82 6 0 0 := ⟨_, _, _, rfl, by decide, uwX6, zin (zt2 (List.mem_of_getElem? (i := 74) (by decide +kernel))) rfl, rfl⟩
theorem plX6_82 : zPl RX6 82 6 0 0 .boolean false := ⟨_, _, _, tyX6, rfl, by decide, uwX6, zin (zt2 (List.mem_of_getElem? (i := 74) (by decide +kernel))) rfl, rfl, tyX6_ok, nmX6, rfl, by decide +kernel, fun _ => rfl⟩
theorem flX6_89 : zFl RX6 89 2 7 2 := ⟨_, _, _, rfl, by decide, uwX2, zin (zt1 (List.mem_of_getElem? (i := 117) (by decide +kernel))) rfl, rfl⟩
theorem flX6_92 : zFl RX6 92 2 6 2 := ⟨_, _, _, rfl, by decide, uwX2, zin (zt1 (List.mem_of_getElem? (i := 114) (by decide +kernel))) rfl, rfl⟩
theorem flX6_112 : zFl RX6 112 1 0 1 := ⟨_, _, _, rfl, by decide, uwX1, zin (zt1 (List.mem_of_getElem? (i := 180) (by decide +kernel))) rfl, rfl⟩
theorem plX6_112 : zPl RX6 112 1 0 1 .long false := ⟨_, _, _, tyX1, rfl, by decide, uwX1, zin (zt1 (List.mem_of_getElem? (i := 180) (by decide +kernel))) rfl, rfl, tyX1_ok, nmX1, rfl, by decide +kernel, fun _ => by contradiction⟩
theorem flX6_115 : zFl RX6 115 1 1 1 := ⟨_, _, _, rfl, by decide, uwX1, zin (zt1 (List.mem_of_getElem? (i := 186) (by decide +kernel))) rfl, rfl⟩
theorem plX6_115 : zPl RX6 115 1 1 1 .long false := ⟨_, _, _, tyX1, rfl, by decide, uwX1, zin (zt1 (List.mem_of_getElem? (i := 186) (by decide +kernel))) rfl, rfl, tyX1_ok, nmX1, rfl, by decide +kernel, fun _ => by contradiction⟩
theorem flX6_121 : zFl RX6 121 2 4 2 := ⟨_, _, _, rfl, by decide, uwX2, zin (zt1 (List.mem_of_getElem? (i := 109) (by decide +kernel))) rfl, rfl⟩
theorem flX6_146 : zFl RX6 146 2 9 2 := ⟨_, _, _, rfl, by decide, uwX2, zin (zt1 (List.mem_of_getElem? (i := 122) (by decide +kernel))) rfl, rfl⟩
theorem flX7_9 : zFl RX7 9 7 0 2 := ⟨_, _, _, rfl, by decide, uwX7, zin (zt1 (List.mem_of_getElem? (i := 79) (by decide +kernel))) rfl, rfl⟩
theorem plX7_9 : zPl RX7 9 7 0 2 (.object "HandBeasts$Row") false := ⟨_, _, _, tyX7, rfl, by decide, uwX7, zin (zt1 (List.mem_of_getElem? (i := 79) (by decide +kernel))) rfl, rfl, tyX7_ok, nmX7, rfl, by decide +kernel, fun _ => rfl⟩
theorem flX7_15 : zFl RX7 15 7 1 2 := ⟨_, _, _, rfl, by decide, uwX7, zin (zt1 (List.mem_of_getElem? (i := 80) (by decide +kernel))) rfl, rfl⟩
theorem plX7_15 : zPl RX7 15 7 1 2 (.object "HandBeasts$Hands") false := ⟨_, _, _, tyX7, rfl, by decide, uwX7, zin (zt1 (List.mem_of_getElem? (i := 80) (by decide +kernel))) rfl, rfl, tyX7_ok, nmX7, rfl, by decide +kernel, fun _ => rfl⟩
theorem flX7_19 : zFl RX7 19 7 2 0 := ⟨_, _, _, rfl, by decide, uwX7, zin (zt1 (List.mem_of_getElem? (i := 81) (by decide +kernel))) rfl, rfl⟩
theorem plX7_19 : zPl RX7 19 7 2 0 .int false := ⟨_, _, _, tyX7, rfl, by decide, uwX7, zin (zt1 (List.mem_of_getElem? (i := 81) (by decide +kernel))) rfl, rfl, tyX7_ok, nmX7, rfl, by decide +kernel, fun _ => rfl⟩
theorem flX7_28 : zFl RX7 28 8 0 0 := ⟨_, _, _, rfl, by decide, uwX8, zin (zt1 (List.mem_of_getElem? (i := 65) (by decide +kernel))) rfl, rfl⟩
theorem plX7_28 : zPl RX7 28 8 0 0 .int false := ⟨_, _, _, tyX8, rfl, by decide, uwX8, zin (zt1 (List.mem_of_getElem? (i := 65) (by decide +kernel))) rfl, rfl, tyX8_ok, nmX8, rfl, by decide +kernel, fun _ => by contradiction⟩
theorem flX7_47 : zFl RX7 47 2 0 0 := ⟨_, _, _, rfl, by decide, uwX2, zin (zt1 (List.mem_of_getElem? (i := 96) (by decide +kernel))) rfl, rfl⟩
theorem plX7_47 : zPl RX7 47 2 0 0 .int false := ⟨_, _, _, tyX2, rfl, by decide, uwX2, zin (zt1 (List.mem_of_getElem? (i := 96) (by decide +kernel))) rfl, rfl, tyX2_ok, nmX2, rfl, by decide +kernel, fun _ => by contradiction⟩
theorem flX7_58 : zFl RX7 58 2 1 0 := ⟨_, _, _, rfl, by decide, uwX2, zin (zt1 (List.mem_of_getElem? (i := 100) (by decide +kernel))) rfl, rfl⟩
theorem plX7_58 : zPl RX7 58 2 1 0 .int false := ⟨_, _, _, tyX2, rfl, by decide, uwX2, zin (zt1 (List.mem_of_getElem? (i := 100) (by decide +kernel))) rfl, rfl, tyX2_ok, nmX2, rfl, by decide +kernel, fun _ => by contradiction⟩
theorem flX7_67 : zFl RX7 67 2 2 0 := ⟨_, _, _, rfl, by decide, uwX2, zin (zt1 (List.mem_of_getElem? (i := 104) (by decide +kernel))) rfl, rfl⟩
theorem plX7_67 : zPl RX7 67 2 2 0 .int false := ⟨_, _, _, tyX2, rfl, by decide, uwX2, zin (zt1 (List.mem_of_getElem? (i := 104) (by decide +kernel))) rfl, rfl, tyX2_ok, nmX2, rfl, by decide +kernel, fun _ => by contradiction⟩
theorem flX8_11 : zFl RX8 11 8 0 0 := ⟨_, _, _, rfl, by decide, uwX8, zin (zt1 (List.mem_of_getElem? (i := 64) (by decide +kernel))) rfl, rfl⟩
theorem plX8_11 : zPl RX8 11 8 0 0 .int false := ⟨_, _, _, tyX8, rfl, by decide, uwX8, zin (zt1 (List.mem_of_getElem? (i := 64) (by decide +kernel))) rfl, rfl, tyX8_ok, nmX8, rfl, by decide +kernel, fun _ => rfl⟩
theorem flX8_21 : zFl RX8 21 8 1 2 := ⟨_, _, _, rfl, by decide, uwX8, zin (zt1 (List.mem_of_getElem? (i := 67) (by decide +kernel))) rfl, rfl⟩
theorem plX8_21 : zPl RX8 21 8 1 2 (.array .int) true := ⟨_, _, _, tyX8, rfl, by decide, uwX8, zin (zt1 (List.mem_of_getElem? (i := 67) (by decide +kernel))) rfl, rfl, tyX8_ok, nmX8, rfl, by decide +kernel, fun _ => rfl⟩
theorem flX9_9 : zFl RX9 9 9 2 1 := ⟨_, _, _, rfl, by decide, uwX9, zin (zt1 (List.mem_of_getElem? (i := 36) (by decide +kernel))) rfl, rfl⟩
theorem plX9_9 : zPl RX9 9 9 2 1 .long false := ⟨_, _, _, tyX9, rfl, by decide, uwX9, zin (zt1 (List.mem_of_getElem? (i := 36) (by decide +kernel))) rfl, rfl, tyX9_ok, nmX9, rfl, by decide +kernel, fun _ => rfl⟩
theorem flX9_15 : zFl RX9 15 9 4 2 := ⟨_, _, _, rfl, by decide, uwX9, zin (zt1 (List.mem_of_getElem? (i := 40) (by decide +kernel))) rfl, rfl⟩
theorem plX9_15 : zPl RX9 15 9 4 2 (.array .int) true := ⟨_, _, _, tyX9, rfl, by decide, uwX9, zin (zt1 (List.mem_of_getElem? (i := 40) (by decide +kernel))) rfl, rfl, tyX9_ok, nmX9, rfl, by decide +kernel, fun _ => rfl⟩
theorem flX9_19 : zFl RX9 19 9 0 0 := ⟨_, _, _, rfl, by decide, uwX9, zin (zt1 (List.mem_of_getElem? (i := 32) (by decide +kernel))) rfl, rfl⟩
theorem plX9_19 : zPl RX9 19 9 0 0 .int false := ⟨_, _, _, tyX9, rfl, by decide, uwX9, zin (zt1 (List.mem_of_getElem? (i := 32) (by decide +kernel))) rfl, rfl, tyX9_ok, nmX9, rfl, by decide +kernel, fun _ => rfl⟩
theorem flX9_23 : zFl RX9 23 9 3 0 := ⟨_, _, _, rfl, by decide, uwX9, zin (zt1 (List.mem_of_getElem? (i := 38) (by decide +kernel))) rfl, rfl⟩
theorem plX9_23 : zPl RX9 23 9 3 0 .int false := ⟨_, _, _, tyX9, rfl, by decide, uwX9, zin (zt1 (List.mem_of_getElem? (i := 38) (by decide +kernel))) rfl, rfl, tyX9_ok, nmX9, rfl, by decide +kernel, fun _ => rfl⟩
theorem flX9_26 : zFl RX9 26 9 1 1 := ⟨_, _, _, rfl, by decide, uwX9, zin (zt1 (List.mem_of_getElem? (i := 34) (by decide +kernel))) rfl, rfl⟩
theorem plX9_26 : zPl RX9 26 9 1 1 .long false := ⟨_, _, _, tyX9, rfl, by decide, uwX9, zin (zt1 (List.mem_of_getElem? (i := 34) (by decide +kernel))) rfl, rfl, tyX9_ok, nmX9, rfl, by decide +kernel, fun _ => rfl⟩
