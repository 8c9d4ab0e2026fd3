theorem zt1 {w : Cond} (h : w ∈ tables_1_1) : w ∈ lw_tbl := List.mem_append_right _ (List.mem_append_left _ h)
theorem zt2 {w : Cond} (h : w ∈ tables_1_2) : w ∈ lw_tbl := List.mem_append_right _ (List.mem_append_right _ (List.mem_append_left _ h))
theorem zt3 {w : Cond} (h : w ∈ tables_1_3) : w ∈ lw_tbl := List.mem_append_right _ (List.mem_append_right _ (List.mem_append_right _ (List.mem_append_left _ h)))
theorem zt4 {w : Cond} (h : w ∈ tables_1_4) : w ∈ lw_tbl := List.mem_append_right _ (List.mem_append_right _ (List.mem_append_right _ (List.mem_append_right _ (h))))
theorem zt0 {w : Cond} (h : w ∈ k2_sels lw_privs) : w ∈ lw_tbl := List.mem_append_left _ h
theorem uwX0 : ∀ w ∈ u_ws RX0 TX0 4, w ∈ zTB := by
  intro w hw
  obtain ⟨k, hk, rfl⟩ := List.mem_map.mp hw
  have hk := List.mem_range.mp hk
  match k, hk with
  | 0, _ => exact zin (zt1 (List.mem_of_getElem? (i := 223) (by decide +kernel))) rfl
  | 1, _ => exact zin (zt1 (List.mem_of_getElem? (i := 225) (by decide +kernel))) rfl
  | 2, _ => exact zin (zt1 (List.mem_of_getElem? (i := 227) (by decide +kernel))) rfl
  | 3, _ => exact zin (zt1 (List.mem_of_getElem? (i := 229) (by decide +kernel))) rfl
  | k + 4, h => exact absurd h (by omega)
theorem uwX1 : ∀ w ∈ u_ws RX1 TX1 2, w ∈ zTB := by
  intro w hw
  obtain ⟨k, hk, rfl⟩ := List.mem_map.mp hw
  have hk := List.mem_range.mp hk
  match k, hk with
  | 0, _ => exact zin (zt1 (List.mem_of_getElem? (i := 173) (by decide +kernel))) rfl
  | 1, _ => exact zin (zt1 (List.mem_of_getElem? (i := 175) (by decide +kernel))) rfl
  | k + 2, h => exact absurd h (by omega)
theorem uwX2 : ∀ w ∈ u_ws RX2 TX2 11, w ∈ zTB := by
  intro w hw
  obtain ⟨k, hk, rfl⟩ := List.mem_map.mp hw
  have hk := List.mem_range.mp hk
  match k, hk with
  | 0, _ => exact zin (zt1 (List.mem_of_getElem? (i := 111) (by decide +kernel))) rfl
  | 1, _ => exact zin (zt1 (List.mem_of_getElem? (i := 113) (by decide +kernel))) rfl
  | 2, _ => exact zin (zt1 (List.mem_of_getElem? (i := 115) (by decide +kernel))) rfl
  | 3, _ => exact zin (zt1 (List.mem_of_getElem? (i := 117) (by decide +kernel))) rfl
  | 4, _ => exact zin (zt1 (List.mem_of_getElem? (i := 119) (by decide +kernel))) rfl
  | 5, _ => exact zin (zt1 (List.mem_of_getElem? (i := 121) (by decide +kernel))) rfl
  | 6, _ => exact zin (zt1 (List.mem_of_getElem? (i := 123) (by decide +kernel))) rfl
  | 7, _ => exact zin (zt1 (List.mem_of_getElem? (i := 125) (by decide +kernel))) rfl
  | 8, _ => exact zin (zt1 (List.mem_of_getElem? (i := 127) (by decide +kernel))) rfl
  | 9, _ => exact zin (zt1 (List.mem_of_getElem? (i := 129) (by decide +kernel))) rfl
  | 10, _ => exact zin (zt1 (List.mem_of_getElem? (i := 131) (by decide +kernel))) rfl
  | k + 11, h => exact absurd h (by omega)
theorem uwX3 : ∀ w ∈ u_ws RX3 TX3 3, w ∈ zTB := by
  intro w hw
  obtain ⟨k, hk, rfl⟩ := List.mem_map.mp hw
  have hk := List.mem_range.mp hk
  match k, hk with
  | 0, _ => exact zin (zt1 (List.mem_of_getElem? (i := 143) (by decide +kernel))) rfl
  | 1, _ => exact zin (zt1 (List.mem_of_getElem? (i := 145) (by decide +kernel))) rfl
  | 2, _ => exact zin (zt1 (List.mem_of_getElem? (i := 147) (by decide +kernel))) rfl
  | k + 3, h => exact absurd h (by omega)
theorem uwX4 : ∀ w ∈ u_ws RX4 TX4 11, w ∈ zTB := by
  intro w hw
  obtain ⟨k, hk, rfl⟩ := List.mem_map.mp hw
  have hk := List.mem_range.mp hk
  match k, hk with
  | 0, _ => exact zin (zt2 (List.mem_of_getElem? (i := 9) (by decide +kernel))) rfl
  | 1, _ => exact zin (zt2 (List.mem_of_getElem? (i := 11) (by decide +kernel))) rfl
  | 2, _ => exact zin (zt2 (List.mem_of_getElem? (i := 13) (by decide +kernel))) rfl
  | 3, _ => exact zin (zt2 (List.mem_of_getElem? (i := 15) (by decide +kernel))) rfl
  | 4, _ => exact zin (zt2 (List.mem_of_getElem? (i := 17) (by decide +kernel))) rfl
  | 5, _ => exact zin (zt2 (List.mem_of_getElem? (i := 19) (by decide +kernel))) rfl
  | 6, _ => exact zin (zt2 (List.mem_of_getElem? (i := 21) (by decide +kernel))) rfl
  | 7, _ => exact zin (zt2 (List.mem_of_getElem? (i := 23) (by decide +kernel))) rfl
  | 8, _ => exact zin (zt2 (List.mem_of_getElem? (i := 25) (by decide +kernel))) rfl
  | 9, _ => exact zin (zt2 (List.mem_of_getElem? (i := 27) (by decide +kernel))) rfl
  | 10, _ => exact zin (zt2 (List.mem_of_getElem? (i := 29) (by decide +kernel))) rfl
  | k + 11, h => exact absurd h (by omega)
theorem uwX5 : ∀ w ∈ u_ws RX5 TX5 8, w ∈ zTB := by
  intro w hw
  obtain ⟨k, hk, rfl⟩ := List.mem_map.mp hw
  have hk := List.mem_range.mp hk
  match k, hk with
  | 0, _ => exact zin (zt1 (List.mem_of_getElem? (i := 191) (by decide +kernel))) rfl
  | 1, _ => exact zin (zt1 (List.mem_of_getElem? (i := 193) (by decide +kernel))) rfl
  | 2, _ => exact zin (zt1 (List.mem_of_getElem? (i := 195) (by decide +kernel))) rfl
  | 3, _ => exact zin (zt1 (List.mem_of_getElem? (i := 197) (by decide +kernel))) rfl
  | 4, _ => exact zin (zt1 (List.mem_of_getElem? (i := 199) (by decide +kernel))) rfl
  | 5, _ => exact zin (zt1 (List.mem_of_getElem? (i := 201) (by decide +kernel))) rfl
  | 6, _ => exact zin (zt1 (List.mem_of_getElem? (i := 203) (by decide +kernel))) rfl
  | 7, _ => exact zin (zt1 (List.mem_of_getElem? (i := 205) (by decide +kernel))) rfl
  | k + 8, h => exact absurd h (by omega)
theorem uwX6 : ∀ w ∈ u_ws RX6 TX6 17, w ∈ zTB := by
  intro w hw
  obtain ⟨k, hk, rfl⟩ := List.mem_map.mp hw
  have hk := List.mem_range.mp hk
  match k, hk with
  | 0, _ => exact zin (zt2 (List.mem_of_getElem? (i := 61) (by decide +kernel))) rfl
  | 1, _ => exact zin (zt2 (List.mem_of_getElem? (i := 63) (by decide +kernel))) rfl
  | 2, _ => exact zin (zt2 (List.mem_of_getElem? (i := 65) (by decide +kernel))) rfl
  | 3, _ => exact zin (zt2 (List.mem_of_getElem? (i := 67) (by decide +kernel))) rfl
  | 4, _ => exact zin (zt2 (List.mem_of_getElem? (i := 69) (by decide +kernel))) rfl
  | 5, _ => exact zin (zt2 (List.mem_of_getElem? (i := 71) (by decide +kernel))) rfl
  | 6, _ => exact zin (zt2 (List.mem_of_getElem? (i := 73) (by decide +kernel))) rfl
  | 7, _ => exact zin (zt2 (List.mem_of_getElem? (i := 75) (by decide +kernel))) rfl
  | 8, _ => exact zin (zt2 (List.mem_of_getElem? (i := 77) (by decide +kernel))) rfl
  | 9, _ => exact zin (zt2 (List.mem_of_getElem? (i := 79) (by decide +kernel))) rfl
  | 10, _ => exact zin (zt2 (List.mem_of_getElem? (i := 81) (by decide +kernel))) rfl
  | 11, _ => exact zin (zt2 (List.mem_of_getElem? (i := 83) (by decide +kernel))) rfl
  | 12, _ => exact zin (zt2 (List.mem_of_getElem? (i := 85) (by decide +kernel))) rfl
  | 13, _ => exact zin (zt2 (List.mem_of_getElem? (i := 87) (by decide +kernel))) rfl
  | 14, _ => exact zin (zt2 (List.mem_of_getElem? (i := 89) (by decide +kernel))) rfl
  | 15, _ => exact zin (zt2 (List.mem_of_getElem? (i := 91) (by decide +kernel))) rfl
  | 16, _ => exact zin (zt2 (List.mem_of_getElem? (i := 93) (by decide +kernel))) rfl
  | k + 17, h => exact absurd h (by omega)
theorem uwX7 : ∀ w ∈ u_ws RX7 TX7 3, w ∈ zTB := by
  intro w hw
  obtain ⟨k, hk, rfl⟩ := List.mem_map.mp hw
  have hk := List.mem_range.mp hk
  match k, hk with
  | 0, _ => exact zin (zt1 (List.mem_of_getElem? (i := 75) (by decide +kernel))) rfl
  | 1, _ => exact zin (zt1 (List.mem_of_getElem? (i := 77) (by decide +kernel))) rfl
  | 2, _ => exact zin (zt1 (List.mem_of_getElem? (i := 79) (by decide +kernel))) rfl
  | k + 3, h => exact absurd h (by omega)
theorem uwX8 : ∀ w ∈ u_ws RX8 TX8 2, w ∈ zTB := by
  intro w hw
  obtain ⟨k, hk, rfl⟩ := List.mem_map.mp hw
  have hk := List.mem_range.mp hk
  match k, hk with
  | 0, _ => exact zin (zt1 (List.mem_of_getElem? (i := 61) (by decide +kernel))) rfl
  | 1, _ => exact zin (zt1 (List.mem_of_getElem? (i := 63) (by decide +kernel))) rfl
  | k + 2, h => exact absurd h (by omega)
theorem uwX9 : ∀ w ∈ u_ws RX9 TX9 5, w ∈ zTB := by
  intro w hw
  obtain ⟨k, hk, rfl⟩ := List.mem_map.mp hw
  have hk := List.mem_range.mp hk
  match k, hk with
  | 0, _ => exact zin (zt1 (List.mem_of_getElem? (i := 35) (by decide +kernel))) rfl
  | 1, _ => exact zin (zt1 (List.mem_of_getElem? (i := 37) (by decide +kernel))) rfl
  | 2, _ => exact zin (zt1 (List.mem_of_getElem? (i := 39) (by decide +kernel))) rfl
  | 3, _ => exact zin (zt1 (List.mem_of_getElem? (i := 41) (by decide +kernel))) rfl
  | 4, _ => exact zin (zt1 (List.mem_of_getElem? (i := 43) (by decide +kernel))) rfl
  | k + 5, h => exact absurd h (by omega)
theorem uwX10 : ∀ w ∈ u_ws RX10 TX10 9, w ∈ zTB := by
  intro w hw
  obtain ⟨k, hk, rfl⟩ := List.mem_map.mp hw
  have hk := List.mem_range.mp hk
  match k, hk with
  | 0, _ => exact zin (zt2 (List.mem_of_getElem? (i := 113) (by decide +kernel))) rfl
  | 1, _ => exact zin (zt2 (List.mem_of_getElem? (i := 115) (by decide +kernel))) rfl
  | 2, _ => exact zin (zt2 (List.mem_of_getElem? (i := 117) (by decide +kernel))) rfl
  | 3, _ => exact zin (zt2 (List.mem_of_getElem? (i := 119) (by decide +kernel))) rfl
  | 4, _ => exact zin (zt2 (List.mem_of_getElem? (i := 121) (by decide +kernel))) rfl
  | 5, _ => exact zin (zt2 (List.mem_of_getElem? (i := 123) (by decide +kernel))) rfl
  | 6, _ => exact zin (zt2 (List.mem_of_getElem? (i := 125) (by decide +kernel))) rfl
  | 7, _ => exact zin (zt2 (List.mem_of_getElem? (i := 127) (by decide +kernel))) rfl
  | 8, _ => exact zin (zt2 (List.mem_of_getElem? (i := 129) (by decide +kernel))) rfl
  | k + 9, h => exact absurd h (by omega)
theorem uwX11 : ∀ w ∈ u_ws RX11 TX11 18, w ∈ zTB := by
  intro w hw
  obtain ⟨k, hk, rfl⟩ := List.mem_map.mp hw
  have hk := List.mem_range.mp hk
  match k, hk with
  | 0, _ => exact zin (zt2 (List.mem_of_getElem? (i := 152) (by decide +kernel))) rfl
  | 1, _ => exact zin (zt2 (List.mem_of_getElem? (i := 154) (by decide +kernel))) rfl
  | 2, _ => exact zin (zt2 (List.mem_of_getElem? (i := 156) (by decide +kernel))) rfl
  | 3, _ => exact zin (zt2 (List.mem_of_getElem? (i := 158) (by decide +kernel))) rfl
  | 4, _ => exact zin (zt2 (List.mem_of_getElem? (i := 160) (by decide +kernel))) rfl
  | 5, _ => exact zin (zt2 (List.mem_of_getElem? (i := 162) (by decide +kernel))) rfl
  | 6, _ => exact zin (zt2 (List.mem_of_getElem? (i := 164) (by decide +kernel))) rfl
  | 7, _ => exact zin (zt2 (List.mem_of_getElem? (i := 166) (by decide +kernel))) rfl
  | 8, _ => exact zin (zt2 (List.mem_of_getElem? (i := 168) (by decide +kernel))) rfl
  | 9, _ => exact zin (zt2 (List.mem_of_getElem? (i := 170) (by decide +kernel))) rfl
  | 10, _ => exact zin (zt2 (List.mem_of_getElem? (i := 172) (by decide +kernel))) rfl
  | 11, _ => exact zin (zt2 (List.mem_of_getElem? (i := 174) (by decide +kernel))) rfl
  | 12, _ => exact zin (zt2 (List.mem_of_getElem? (i := 176) (by decide +kernel))) rfl
  | 13, _ => exact zin (zt2 (List.mem_of_getElem? (i := 178) (by decide +kernel))) rfl
  | 14, _ => exact zin (zt2 (List.mem_of_getElem? (i := 180) (by decide +kernel))) rfl
  | 15, _ => exact zin (zt2 (List.mem_of_getElem? (i := 182) (by decide +kernel))) rfl
  | 16, _ => exact zin (zt2 (List.mem_of_getElem? (i := 184) (by decide +kernel))) rfl
  | 17, _ => exact zin (zt2 (List.mem_of_getElem? (i := 186) (by decide +kernel))) rfl
  | k + 18, h => exact absurd h (by omega)
theorem uwX12 : ∀ w ∈ u_ws RX12 TX12 0, w ∈ zTB := by
  intro w hw
  obtain ⟨k, hk, rfl⟩ := List.mem_map.mp hw
  have hk := List.mem_range.mp hk
  match k, hk with
  | k + 0, h => exact absurd h (by omega)
abbrev mX0_init : zM := (yX0_init, cX0_init, 1, none, 2, 40, 2, 4)
theorem kcX0_init : zCal mX0_init 0 := ⟨zin (zt1 (List.mem_of_getElem? (i := 213) rfl)) rfl, zin (zt1 (List.mem_of_getElem? (i := 10) (by decide +kernel))) rfl, ⟨by decide +kernel, by decide +kernel, by decide +kernel⟩, by decide +kernel⟩
theorem imX0_init : Cond.instanceMethod yX0_init ∈ zTB := zin (zt1 (List.mem_of_getElem? (i := 212) (by decide +kernel))) rfl
abbrev mX0_missed : zM := (yX0_missed, cX0_missed, 5, some .int, 1, 21, 0, 0)
theorem kcX0_missed : zCal mX0_missed 2 := ⟨zin (zt3 (List.mem_of_getElem? (i := 142) rfl)) rfl, zin (zt1 (List.mem_of_getElem? (i := 10) (by decide +kernel))) rfl, ⟨by decide +kernel, by decide +kernel, by decide +kernel⟩, by decide +kernel⟩
theorem viX0_missed : zVir mX0_missed 0 := ⟨zin (zt3 (List.mem_of_getElem? (i := 140) (by decide +kernel))) rfl, zin (zt3 (List.mem_of_getElem? (i := 141) (by decide +kernel))) rfl, _, _, rfl⟩
theorem imX0_missed : Cond.instanceMethod yX0_missed ∈ zTB := zin (zt3 (List.mem_of_getElem? (i := 140) (by decide +kernel))) rfl
abbrev mX0_over : zM := (yX0_over, cX0_over, 5, some .int, 1, 21, 0, 0)
theorem kcX0_over : zCal mX0_over 2 := ⟨zin (zt3 (List.mem_of_getElem? (i := 153) rfl)) rfl, zin (zt1 (List.mem_of_getElem? (i := 10) (by decide +kernel))) rfl, ⟨by decide +kernel, by decide +kernel, by decide +kernel⟩, by decide +kernel⟩
theorem viX0_over : zVir mX0_over 0 := ⟨zin (zt3 (List.mem_of_getElem? (i := 151) (by decide +kernel))) rfl, zin (zt3 (List.mem_of_getElem? (i := 152) (by decide +kernel))) rfl, _, _, rfl⟩
theorem imX0_over : Cond.instanceMethod yX0_over ∈ zTB := zin (zt3 (List.mem_of_getElem? (i := 151) (by decide +kernel))) rfl
abbrev mX0_offOf : zM := (yX0_offOf, cX0_offOf, 5, some .int, 2, 45, 0, 0)
theorem kcX0_offOf : zCal mX0_offOf 2 := ⟨zin (zt3 (List.mem_of_getElem? (i := 148) rfl)) rfl, zin (zt1 (List.mem_of_getElem? (i := 10) (by decide +kernel))) rfl, ⟨by decide +kernel, by decide +kernel, by decide +kernel⟩, by decide +kernel⟩
theorem viX0_offOf : zVir mX0_offOf 0 := ⟨zin (zt3 (List.mem_of_getElem? (i := 146) (by decide +kernel))) rfl, zin (zt3 (List.mem_of_getElem? (i := 147) (by decide +kernel))) rfl, _, _, rfl⟩
theorem imX0_offOf : Cond.instanceMethod yX0_offOf ∈ zTB := zin (zt3 (List.mem_of_getElem? (i := 146) (by decide +kernel))) rfl
abbrev mX1_init : zM := (yX1_init, cX1_init, 1, none, 1, 20, 0, 0)
theorem kcX1_init : zCal mX1_init 0 := ⟨zin (zt1 (List.mem_of_getElem? (i := 161) rfl)) rfl, zin (zt1 (List.mem_of_getElem? (i := 9) (by decide +kernel))) rfl, ⟨by decide +kernel, by decide +kernel, by decide +kernel⟩, by decide +kernel⟩
theorem imX1_init : Cond.instanceMethod yX1_init ∈ zTB := zin (zt1 (List.mem_of_getElem? (i := 160) (by decide +kernel))) rfl
abbrev mX1_clear : zM := (yX1_clear, cX1_clear, 1, none, 0, 0, 0, 0)
theorem kcX1_clear : zCal mX1_clear 0 := ⟨zin (zt3 (List.mem_of_getElem? (i := 2) rfl)) rfl, zin (zt1 (List.mem_of_getElem? (i := 9) (by decide +kernel))) rfl, ⟨by decide +kernel, by decide +kernel, by decide +kernel⟩, by decide +kernel⟩
theorem viX1_clear : zVir mX1_clear 1 := ⟨zin (zt3 (List.mem_of_getElem? (i := 0) (by decide +kernel))) rfl, zin (zt3 (List.mem_of_getElem? (i := 1) (by decide +kernel))) rfl, _, _, rfl⟩
theorem imX1_clear : Cond.instanceMethod yX1_clear ∈ zTB := zin (zt3 (List.mem_of_getElem? (i := 0) (by decide +kernel))) rfl
abbrev mX1_become : zM := (yX1_become, cX1_become, 2, none, 0, 0, 0, 0)
theorem kcX1_become : zCal mX1_become 1 := ⟨zin (zt3 (List.mem_of_getElem? (i := 212) rfl)) rfl, zin (zt1 (List.mem_of_getElem? (i := 9) (by decide +kernel))) rfl, ⟨by decide +kernel, by decide +kernel, by decide +kernel⟩, by decide +kernel⟩
theorem viX1_become : zVir mX1_become 1 := ⟨zin (zt3 (List.mem_of_getElem? (i := 210) (by decide +kernel))) rfl, zin (zt3 (List.mem_of_getElem? (i := 211) (by decide +kernel))) rfl, _, _, rfl⟩
theorem imX1_become : Cond.instanceMethod yX1_become ∈ zTB := zin (zt3 (List.mem_of_getElem? (i := 210) (by decide +kernel))) rfl
abbrev mX1_join : zM := (yX1_join, cX1_join, 5, none, 0, 0, 0, 0)
theorem kcX1_join : zCal mX1_join 2 := ⟨zin (zt3 (List.mem_of_getElem? (i := 113) rfl)) rfl, zin (zt1 (List.mem_of_getElem? (i := 9) (by decide +kernel))) rfl, ⟨by decide +kernel, by decide +kernel, by decide +kernel⟩, by decide +kernel⟩
theorem viX1_join : zVir mX1_join 1 := ⟨zin (zt3 (List.mem_of_getElem? (i := 111) (by decide +kernel))) rfl, zin (zt3 (List.mem_of_getElem? (i := 112) (by decide +kernel))) rfl, _, _, rfl⟩
theorem imX1_join : Cond.instanceMethod yX1_join ∈ zTB := zin (zt3 (List.mem_of_getElem? (i := 111) (by decide +kernel))) rfl
abbrev mX1_leave : zM := (yX1_leave, cX1_leave, 2, none, 0, 0, 0, 0)
theorem kcX1_leave : zCal mX1_leave 1 := ⟨zin (zt3 (List.mem_of_getElem? (i := 216) rfl)) rfl, zin (zt1 (List.mem_of_getElem? (i := 9) (by decide +kernel))) rfl, ⟨by decide +kernel, by decide +kernel, by decide +kernel⟩, by decide +kernel⟩
theorem viX1_leave : zVir mX1_leave 1 := ⟨zin (zt3 (List.mem_of_getElem? (i := 214) (by decide +kernel))) rfl, zin (zt3 (List.mem_of_getElem? (i := 215) (by decide +kernel))) rfl, _, _, rfl⟩
theorem imX1_leave : Cond.instanceMethod yX1_leave ∈ zTB := zin (zt3 (List.mem_of_getElem? (i := 214) (by decide +kernel))) rfl
abbrev mX1_has : zM := (yX1_has, cX1_has, 2, some .boolean, 0, 0, 0, 0)
theorem kcX1_has : zCal mX1_has 1 := ⟨zin (zt4 (List.mem_of_getElem? (i := 72) rfl)) rfl, zin (zt1 (List.mem_of_getElem? (i := 9) (by decide +kernel))) rfl, ⟨by decide +kernel, by decide +kernel, by decide +kernel⟩, by decide +kernel⟩
theorem viX1_has : zVir mX1_has 1 := ⟨zin (zt4 (List.mem_of_getElem? (i := 70) (by decide +kernel))) rfl, zin (zt4 (List.mem_of_getElem? (i := 71) (by decide +kernel))) rfl, _, _, rfl⟩
theorem imX1_has : Cond.instanceMethod yX1_has ∈ zTB := zin (zt4 (List.mem_of_getElem? (i := 70) (by decide +kernel))) rfl
abbrev mX1_is : zM := (yX1_is, cX1_is, 5, some .boolean, 0, 0, 0, 0)
theorem kcX1_is : zCal mX1_is 2 := ⟨zin (zt3 (List.mem_of_getElem? (i := 233) rfl)) rfl, zin (zt1 (List.mem_of_getElem? (i := 9) (by decide +kernel))) rfl, ⟨by decide +kernel, by decide +kernel, by decide +kernel⟩, by decide +kernel⟩
theorem viX1_is : zVir mX1_is 1 := ⟨zin (zt3 (List.mem_of_getElem? (i := 231) (by decide +kernel))) rfl, zin (zt3 (List.mem_of_getElem? (i := 232) (by decide +kernel))) rfl, _, _, rfl⟩
theorem imX1_is : Cond.instanceMethod yX1_is ∈ zTB := zin (zt3 (List.mem_of_getElem? (i := 231) (by decide +kernel))) rfl
abbrev mX1_number : zM := (yX1_number, cX1_number, 1, some .int, 1, 21, 0, 0)
theorem kcX1_number : zCal mX1_number 0 := ⟨zin (zt3 (List.mem_of_getElem? (i := 74) rfl)) rfl, zin (zt1 (List.mem_of_getElem? (i := 9) (by decide +kernel))) rfl, ⟨by decide +kernel, by decide +kernel, by decide +kernel⟩, by decide +kernel⟩
theorem viX1_number : zVir mX1_number 1 := ⟨zin (zt3 (List.mem_of_getElem? (i := 72) (by decide +kernel))) rfl, zin (zt3 (List.mem_of_getElem? (i := 73) (by decide +kernel))) rfl, _, _, rfl⟩
theorem imX1_number : Cond.instanceMethod yX1_number ∈ zTB := zin (zt3 (List.mem_of_getElem? (i := 72) (by decide +kernel))) rfl
abbrev mX1_isCell : zM := (yX1_isCell, cX1_isCell, 2, some .boolean, 0, 0, 0, 0)
theorem kcX1_isCell : zCal mX1_isCell 2 := ⟨zin (zt3 (List.mem_of_getElem? (i := 29) rfl)) rfl, zin (zt1 (List.mem_of_getElem? (i := 9) (by decide +kernel))) rfl, ⟨by decide +kernel, by decide +kernel, by decide +kernel⟩, by decide +kernel⟩
theorem smX1_isCell : Cond.static yX1_isCell ∈ zTB := zin (zt3 (List.mem_of_getElem? (i := 28) (by decide +kernel))) rfl
abbrev mX1_addNew : zM := (yX1_addNew, cX1_addNew, 7, some .boolean, 1, 22, 0, 0)
theorem kcX1_addNew : zCal mX1_addNew 2 := ⟨zin (zt3 (List.mem_of_getElem? (i := 26) rfl)) rfl, zin (zt1 (List.mem_of_getElem? (i := 9) (by decide +kernel))) rfl, ⟨by decide +kernel, by decide +kernel, by decide +kernel⟩, by decide +kernel⟩
theorem viX1_addNew : zVir mX1_addNew 1 := ⟨zin (zt3 (List.mem_of_getElem? (i := 24) (by decide +kernel))) rfl, zin (zt3 (List.mem_of_getElem? (i := 25) (by decide +kernel))) rfl, _, _, rfl⟩
theorem imX1_addNew : Cond.instanceMethod yX1_addNew ∈ zTB := zin (zt3 (List.mem_of_getElem? (i := 24) (by decide +kernel))) rfl
abbrev mX1_line : zM := (yX1_line, cX1_line, 4, some .int, 0, 0, 0, 0)
theorem kcX1_line : zCal mX1_line 1 := ⟨zin (zt3 (List.mem_of_getElem? (i := 66) rfl)) rfl, zin (zt1 (List.mem_of_getElem? (i := 9) (by decide +kernel))) rfl, ⟨by decide +kernel, by decide +kernel, by decide +kernel⟩, by decide +kernel⟩
theorem viX1_line : zVir mX1_line 1 := ⟨zin (zt3 (List.mem_of_getElem? (i := 64) (by decide +kernel))) rfl, zin (zt3 (List.mem_of_getElem? (i := 65) (by decide +kernel))) rfl, _, _, rfl⟩
theorem imX1_line : Cond.instanceMethod yX1_line ∈ zTB := zin (zt3 (List.mem_of_getElem? (i := 64) (by decide +kernel))) rfl
abbrev mX1_addLine : zM := (yX1_addLine, cX1_addLine, 3, none, 0, 0, 0, 0)
theorem kcX1_addLine : zCal mX1_addLine 2 := ⟨zin (zt3 (List.mem_of_getElem? (i := 33) rfl)) rfl, zin (zt1 (List.mem_of_getElem? (i := 9) (by decide +kernel))) rfl, ⟨by decide +kernel, by decide +kernel, by decide +kernel⟩, by decide +kernel⟩
theorem viX1_addLine : zVir mX1_addLine 1 := ⟨zin (zt3 (List.mem_of_getElem? (i := 31) (by decide +kernel))) rfl, zin (zt3 (List.mem_of_getElem? (i := 32) (by decide +kernel))) rfl, _, _, rfl⟩
theorem imX1_addLine : Cond.instanceMethod yX1_addLine ∈ zTB := zin (zt3 (List.mem_of_getElem? (i := 31) (by decide +kernel))) rfl
abbrev mX2_init : zM := (yX2_init, cX2_init, 1, none, 1, 20, 8, 44)
theorem kcX2_init : zCal mX2_init 0 := ⟨zin (zt1 (List.mem_of_getElem? (i := 86) rfl)) rfl, zin (zt1 (List.mem_of_getElem? (i := 6) (by decide +kernel))) rfl, ⟨by decide +kernel, by decide +kernel, by decide +kernel⟩, by decide +kernel⟩
theorem imX2_init : Cond.instanceMethod yX2_init ∈ zTB := zin (zt1 (List.mem_of_getElem? (i := 85) (by decide +kernel))) rfl
abbrev mX2_clear : zM := (yX2_clear, cX2_clear, 1, none, 0, 0, 0, 0)
theorem kcX2_clear : zCal mX2_clear 0 := ⟨zin (zt4 (List.mem_of_getElem? (i := 124) rfl)) rfl, zin (zt1 (List.mem_of_getElem? (i := 6) (by decide +kernel))) rfl, ⟨by decide +kernel, by decide +kernel, by decide +kernel⟩, by decide +kernel⟩
theorem viX2_clear : zVir mX2_clear 2 := ⟨zin (zt4 (List.mem_of_getElem? (i := 122) (by decide +kernel))) rfl, zin (zt4 (List.mem_of_getElem? (i := 123) (by decide +kernel))) rfl, _, _, rfl⟩
theorem imX2_clear : Cond.instanceMethod yX2_clear ∈ zTB := zin (zt4 (List.mem_of_getElem? (i := 122) (by decide +kernel))) rfl
abbrev mX2_addHand : zM := (yX2_addHand, cX2_addHand, 2, some .boolean, 0, 0, 0, 0)
theorem kcX2_addHand : zCal mX2_addHand 1 := ⟨zin (zt4 (List.mem_of_getElem? (i := 142) rfl)) rfl, zin (zt1 (List.mem_of_getElem? (i := 6) (by decide +kernel))) rfl, ⟨by decide +kernel, by decide +kernel, by decide +kernel⟩, by decide +kernel⟩
theorem viX2_addHand : zVir mX2_addHand 2 := ⟨zin (zt4 (List.mem_of_getElem? (i := 140) (by decide +kernel))) rfl, zin (zt4 (List.mem_of_getElem? (i := 141) (by decide +kernel))) rfl, _, _, rfl⟩
theorem imX2_addHand : Cond.instanceMethod yX2_addHand ∈ zTB := zin (zt4 (List.mem_of_getElem? (i := 140) (by decide +kernel))) rfl
abbrev mX2_addFinger : zM := (yX2_addFinger, cX2_addFinger, 2, some .boolean, 0, 0, 0, 0)
theorem kcX2_addFinger : zCal mX2_addFinger 1 := ⟨zin (zt4 (List.mem_of_getElem? (i := 150) rfl)) rfl, zin (zt1 (List.mem_of_getElem? (i := 6) (by decide +kernel))) rfl, ⟨by decide +kernel, by decide +kernel, by decide +kernel⟩, by decide +kernel⟩
theorem viX2_addFinger : zVir mX2_addFinger 2 := ⟨zin (zt4 (List.mem_of_getElem? (i := 148) (by decide +kernel))) rfl, zin (zt4 (List.mem_of_getElem? (i := 149) (by decide +kernel))) rfl, _, _, rfl⟩
theorem imX2_addFinger : Cond.instanceMethod yX2_addFinger ∈ zTB := zin (zt4 (List.mem_of_getElem? (i := 148) (by decide +kernel))) rfl
abbrev mX2_addJoint : zM := (yX2_addJoint, cX2_addJoint, 3, some .boolean, 0, 0, 0, 0)
theorem kcX2_addJoint : zCal mX2_addJoint 2 := ⟨zin (zt4 (List.mem_of_getElem? (i := 161) rfl)) rfl, zin (zt1 (List.mem_of_getElem? (i := 6) (by decide +kernel))) rfl, ⟨by decide +kernel, by decide +kernel, by decide +kernel⟩, by decide +kernel⟩
theorem viX2_addJoint : zVir mX2_addJoint 2 := ⟨zin (zt4 (List.mem_of_getElem? (i := 159) (by decide +kernel))) rfl, zin (zt4 (List.mem_of_getElem? (i := 160) (by decide +kernel))) rfl, _, _, rfl⟩
theorem imX2_addJoint : Cond.instanceMethod yX2_addJoint ∈ zTB := zin (zt4 (List.mem_of_getElem? (i := 159) (by decide +kernel))) rfl
abbrev mX2_span : zM := (yX2_span, cX2_span, 2, some .int, 1, 21, 0, 0)
theorem kcX2_span : zCal mX2_span 1 := ⟨zin (zt4 (List.mem_of_getElem? (i := 185) rfl)) rfl, zin (zt1 (List.mem_of_getElem? (i := 6) (by decide +kernel))) rfl, ⟨by decide +kernel, by decide +kernel, by decide +kernel⟩, by decide +kernel⟩
theorem viX2_span : zVir mX2_span 2 := ⟨zin (zt4 (List.mem_of_getElem? (i := 183) (by decide +kernel))) rfl, zin (zt4 (List.mem_of_getElem? (i := 184) (by decide +kernel))) rfl, _, _, rfl⟩
theorem imX2_span : Cond.instanceMethod yX2_span ∈ zTB := zin (zt4 (List.mem_of_getElem? (i := 183) (by decide +kernel))) rfl
abbrev mX2_canTurn : zM := (yX2_canTurn, cX2_canTurn, 3, some .boolean, 2, 42, 0, 0)
theorem kcX2_canTurn : zCal mX2_canTurn 1 := ⟨zin (zt2 (List.mem_of_getElem? (i := 232) rfl)) rfl, zin (zt1 (List.mem_of_getElem? (i := 6) (by decide +kernel))) rfl, ⟨by decide +kernel, by decide +kernel, by decide +kernel⟩, by decide +kernel⟩
theorem viX2_canTurn : zVir mX2_canTurn 2 := ⟨zin (zt2 (List.mem_of_getElem? (i := 230) (by decide +kernel))) rfl, zin (zt2 (List.mem_of_getElem? (i := 231) (by decide +kernel))) rfl, _, _, rfl⟩
theorem imX2_canTurn : Cond.instanceMethod yX2_canTurn ∈ zTB := zin (zt2 (List.mem_of_getElem? (i := 230) (by decide +kernel))) rfl
abbrev mX2_turnFinger : zM := (yX2_turnFinger, cX2_turnFinger, 8, some .int, 2, 42, 0, 0)
theorem kcX2_turnFinger : zCal mX2_turnFinger 3 := ⟨zin (zt4 (List.mem_of_getElem? (i := 197) rfl)) rfl, zin (zt1 (List.mem_of_getElem? (i := 6) (by decide +kernel))) rfl, ⟨by decide +kernel, by decide +kernel, by decide +kernel⟩, by decide +kernel⟩
theorem viX2_turnFinger : zVir mX2_turnFinger 2 := ⟨zin (zt4 (List.mem_of_getElem? (i := 195) (by decide +kernel))) rfl, zin (zt4 (List.mem_of_getElem? (i := 196) (by decide +kernel))) rfl, _, _, rfl⟩
theorem imX2_turnFinger : Cond.instanceMethod yX2_turnFinger ∈ zTB := zin (zt4 (List.mem_of_getElem? (i := 195) (by decide +kernel))) rfl
abbrev mX2_wristCells : zM := (yX2_wristCells, cX2_wristCells, 6, some .int, 2, 48, 0, 0)
theorem kcX2_wristCells : zCal mX2_wristCells 2 := ⟨zin (zt3 (List.mem_of_getElem? (i := 21) rfl)) rfl, zin (zt1 (List.mem_of_getElem? (i := 6) (by decide +kernel))) rfl, ⟨by decide +kernel, by decide +kernel, by decide +kernel⟩, by decide +kernel⟩
theorem viX2_wristCells : zVir mX2_wristCells 2 := ⟨zin (zt3 (List.mem_of_getElem? (i := 19) (by decide +kernel))) rfl, zin (zt3 (List.mem_of_getElem? (i := 20) (by decide +kernel))) rfl, _, _, rfl⟩
theorem imX2_wristCells : Cond.instanceMethod yX2_wristCells ∈ zTB := zin (zt3 (List.mem_of_getElem? (i := 19) (by decide +kernel))) rfl
abbrev mX2_fingerCells : zM := (yX2_fingerCells, cX2_fingerCells, 9, some .int, 2, 48, 0, 0)
theorem kcX2_fingerCells : zCal mX2_fingerCells 3 := ⟨zin (zt3 (List.mem_of_getElem? (i := 37) rfl)) rfl, zin (zt1 (List.mem_of_getElem? (i := 6) (by decide +kernel))) rfl, ⟨by decide +kernel, by decide +kernel, by decide +kernel⟩, by decide +kernel⟩
theorem viX2_fingerCells : zVir mX2_fingerCells 2 := ⟨zin (zt3 (List.mem_of_getElem? (i := 35) (by decide +kernel))) rfl, zin (zt3 (List.mem_of_getElem? (i := 36) (by decide +kernel))) rfl, _, _, rfl⟩
theorem imX2_fingerCells : Cond.instanceMethod yX2_fingerCells ∈ zTB := zin (zt3 (List.mem_of_getElem? (i := 35) (by decide +kernel))) rfl
abbrev mX2_allCells : zM := (yX2_allCells, cX2_allCells, 5, some .int, 3, 76, 0, 0)
theorem kcX2_allCells : zCal mX2_allCells 2 := ⟨zin (zt3 (List.mem_of_getElem? (i := 17) rfl)) rfl, zin (zt1 (List.mem_of_getElem? (i := 6) (by decide +kernel))) rfl, ⟨by decide +kernel, by decide +kernel, by decide +kernel⟩, by decide +kernel⟩
theorem viX2_allCells : zVir mX2_allCells 2 := ⟨zin (zt3 (List.mem_of_getElem? (i := 15) (by decide +kernel))) rfl, zin (zt3 (List.mem_of_getElem? (i := 16) (by decide +kernel))) rfl, _, _, rfl⟩
theorem imX2_allCells : Cond.instanceMethod yX2_allCells ∈ zTB := zin (zt3 (List.mem_of_getElem? (i := 15) (by decide +kernel))) rfl
abbrev mX3_init : zM := (yX3_init, cX3_init, 1, none, 1, 20, 0, 0)
theorem kcX3_init : zCal mX3_init 0 := ⟨zin (zt1 (List.mem_of_getElem? (i := 138) rfl)) rfl, zin (zt1 (List.mem_of_getElem? (i := 7) (by decide +kernel))) rfl, ⟨by decide +kernel, by decide +kernel, by decide +kernel⟩, by decide +kernel⟩
theorem imX3_init : Cond.instanceMethod yX3_init ∈ zTB := zin (zt1 (List.mem_of_getElem? (i := 137) (by decide +kernel))) rfl
abbrev mX3_become : zM := (yX3_become, cX3_become, 4, none, 0, 0, 0, 0)
theorem kcX3_become : zCal mX3_become 3 := ⟨zin (zt4 (List.mem_of_getElem? (i := 55) rfl)) rfl, zin (zt1 (List.mem_of_getElem? (i := 7) (by decide +kernel))) rfl, ⟨by decide +kernel, by decide +kernel, by decide +kernel⟩, by decide +kernel⟩
theorem viX3_become : zVir mX3_become 3 := ⟨zin (zt4 (List.mem_of_getElem? (i := 53) (by decide +kernel))) rfl, zin (zt4 (List.mem_of_getElem? (i := 54) (by decide +kernel))) rfl, _, _, rfl⟩
theorem imX3_become : Cond.instanceMethod yX3_become ∈ zTB := zin (zt4 (List.mem_of_getElem? (i := 53) (by decide +kernel))) rfl
abbrev mX3_becomeNumber : zM := (yX3_becomeNumber, cX3_becomeNumber, 2, none, 1, 23, 0, 0)
theorem kcX3_becomeNumber : zCal mX3_becomeNumber 1 := ⟨zin (zt4 (List.mem_of_getElem? (i := 51) rfl)) rfl, zin (zt1 (List.mem_of_getElem? (i := 7) (by decide +kernel))) rfl, ⟨by decide +kernel, by decide +kernel, by decide +kernel⟩, by decide +kernel⟩
theorem viX3_becomeNumber : zVir mX3_becomeNumber 3 := ⟨zin (zt4 (List.mem_of_getElem? (i := 49) (by decide +kernel))) rfl, zin (zt4 (List.mem_of_getElem? (i := 50) (by decide +kernel))) rfl, _, _, rfl⟩
theorem imX3_becomeNumber : Cond.instanceMethod yX3_becomeNumber ∈ zTB := zin (zt4 (List.mem_of_getElem? (i := 49) (by decide +kernel))) rfl
abbrev mX3_code : zM := (yX3_code, cX3_code, 1, some .int, 0, 0, 0, 0)
theorem kcX3_code : zCal mX3_code 0 := ⟨zin (zt4 (List.mem_of_getElem? (i := 59) rfl)) rfl, zin (zt1 (List.mem_of_getElem? (i := 7) (by decide +kernel))) rfl, ⟨by decide +kernel, by decide +kernel, by decide +kernel⟩, by decide +kernel⟩
theorem viX3_code : zVir mX3_code 3 := ⟨zin (zt4 (List.mem_of_getElem? (i := 57) (by decide +kernel))) rfl, zin (zt4 (List.mem_of_getElem? (i := 58) (by decide +kernel))) rfl, _, _, rfl⟩
theorem imX3_code : Cond.instanceMethod yX3_code ∈ zTB := zin (zt4 (List.mem_of_getElem? (i := 57) (by decide +kernel))) rfl
abbrev mX3_throwCells : zM := (yX3_throwCells, cX3_throwCells, 6, none, 3, 75, 0, 0)
theorem kcX3_throwCells : zCal mX3_throwCells 3 := ⟨zin (zt3 (List.mem_of_getElem? (i := 92) rfl)) rfl, zin (zt1 (List.mem_of_getElem? (i := 7) (by decide +kernel))) rfl, ⟨by decide +kernel, by decide +kernel, by decide +kernel⟩, by decide +kernel⟩
theorem viX3_throwCells : zVir mX3_throwCells 3 := ⟨zin (zt3 (List.mem_of_getElem? (i := 90) (by decide +kernel))) rfl, zin (zt3 (List.mem_of_getElem? (i := 91) (by decide +kernel))) rfl, _, _, rfl⟩
theorem imX3_throwCells : Cond.instanceMethod yX3_throwCells ∈ zTB := zin (zt3 (List.mem_of_getElem? (i := 90) (by decide +kernel))) rfl
abbrev mX3_throwHalf : zM := (yX3_throwHalf, cX3_throwHalf, 9, none, 2, 47, 0, 0)
theorem kcX3_throwHalf : zCal mX3_throwHalf 3 := ⟨zin (zt3 (List.mem_of_getElem? (i := 97) rfl)) rfl, zin (zt1 (List.mem_of_getElem? (i := 7) (by decide +kernel))) rfl, ⟨by decide +kernel, by decide +kernel, by decide +kernel⟩, by decide +kernel⟩
theorem viX3_throwHalf : zVir mX3_throwHalf 3 := ⟨zin (zt3 (List.mem_of_getElem? (i := 96) (by decide +kernel))) rfl, zin (zt0 (List.mem_of_getElem? (i := 3) (by decide +kernel))) rfl, _, _, rfl⟩
theorem imX3_throwHalf : Cond.instanceMethod yX3_throwHalf ∈ zTB := zin (zt3 (List.mem_of_getElem? (i := 96) (by decide +kernel))) rfl
abbrev mX3_throwCell : zM := (yX3_throwCell, cX3_throwCell, 6, none, 1, 22, 0, 0)
theorem kcX3_throwCell : zCal mX3_throwCell 3 := ⟨zin (zt3 (List.mem_of_getElem? (i := 108) rfl)) rfl, zin (zt1 (List.mem_of_getElem? (i := 7) (by decide +kernel))) rfl, ⟨by decide +kernel, by decide +kernel, by decide +kernel⟩, by decide +kernel⟩
theorem viX3_throwCell : zVir mX3_throwCell 3 := ⟨zin (zt3 (List.mem_of_getElem? (i := 107) (by decide +kernel))) rfl, zin (zt0 (List.mem_of_getElem? (i := 4) (by decide +kernel))) rfl, _, _, rfl⟩
theorem imX3_throwCell : Cond.instanceMethod yX3_throwCell ∈ zTB := zin (zt3 (List.mem_of_getElem? (i := 107) (by decide +kernel))) rfl
abbrev mX4_init : zM := (yX4_init, cX4_init, 1, none, 1, 20, 16, 149)
theorem kcX4_init : zCal mX4_init 0 := ⟨zin (zt1 (List.mem_of_getElem? (i := 236) rfl)) rfl, zin (zt1 (List.mem_of_getElem? (i := 11) (by decide +kernel))) rfl, ⟨by decide +kernel, by decide +kernel, by decide +kernel⟩, by decide +kernel⟩
theorem imX4_init : Cond.instanceMethod yX4_init ∈ zTB := zin (zt1 (List.mem_of_getElem? (i := 235) (by decide +kernel))) rfl
abbrev mX4_setCall : zM := (yX4_setCall, cX4_setCall, 5, none, 0, 0, 0, 0)
theorem kcX4_setCall : zCal mX4_setCall 4 := ⟨zin (zt4 (List.mem_of_getElem? (i := 177) rfl)) rfl, zin (zt1 (List.mem_of_getElem? (i := 11) (by decide +kernel))) rfl, ⟨by decide +kernel, by decide +kernel, by decide +kernel⟩, by decide +kernel⟩
theorem viX4_setCall : zVir mX4_setCall 4 := ⟨zin (zt4 (List.mem_of_getElem? (i := 176) (by decide +kernel))) rfl, zin (zt0 (List.mem_of_getElem? (i := 17) (by decide +kernel))) rfl, _, _, rfl⟩
theorem imX4_setCall : Cond.instanceMethod yX4_setCall ∈ zTB := zin (zt4 (List.mem_of_getElem? (i := 176) (by decide +kernel))) rfl
abbrev mX4_dropCalls : zM := (yX4_dropCalls, cX4_dropCalls, 4, none, 1, 24, 0, 0)
theorem kcX4_dropCalls : zCal mX4_dropCalls 1 := ⟨zin (zt4 (List.mem_of_getElem? (i := 173) rfl)) rfl, zin (zt1 (List.mem_of_getElem? (i := 11) (by decide +kernel))) rfl, ⟨by decide +kernel, by decide +kernel, by decide +kernel⟩, by decide +kernel⟩
theorem viX4_dropCalls : zVir mX4_dropCalls 4 := ⟨zin (zt4 (List.mem_of_getElem? (i := 171) (by decide +kernel))) rfl, zin (zt4 (List.mem_of_getElem? (i := 172) (by decide +kernel))) rfl, _, _, rfl⟩
theorem imX4_dropCalls : Cond.instanceMethod yX4_dropCalls ∈ zTB := zin (zt4 (List.mem_of_getElem? (i := 171) (by decide +kernel))) rfl
abbrev mX5_init : zM := (yX5_init, cX5_init, 1, none, 2, 40, 3, 10)
theorem kcX5_init : zCal mX5_init 0 := ⟨zin (zt1 (List.mem_of_getElem? (i := 155) rfl)) rfl, zin (zt1 (List.mem_of_getElem? (i := 8) (by decide +kernel))) rfl, ⟨by decide +kernel, by decide +kernel, by decide +kernel⟩, by decide +kernel⟩
theorem imX5_init : Cond.instanceMethod yX5_init ∈ zTB := zin (zt1 (List.mem_of_getElem? (i := 154) (by decide +kernel))) rfl
abbrev mX5_begin : zM := (yX5_begin, cX5_begin, 4, none, 2, 42, 0, 0)
theorem kcX5_begin : zCal mX5_begin 2 := ⟨zin (zt2 (List.mem_of_getElem? (i := 237) rfl)) rfl, zin (zt1 (List.mem_of_getElem? (i := 8) (by decide +kernel))) rfl, ⟨by decide +kernel, by decide +kernel, by decide +kernel⟩, by decide +kernel⟩
theorem viX5_begin : zVir mX5_begin 5 := ⟨zin (zt2 (List.mem_of_getElem? (i := 235) (by decide +kernel))) rfl, zin (zt2 (List.mem_of_getElem? (i := 236) (by decide +kernel))) rfl, _, _, rfl⟩
theorem imX5_begin : Cond.instanceMethod yX5_begin ∈ zTB := zin (zt2 (List.mem_of_getElem? (i := 235) (by decide +kernel))) rfl
abbrev mX5_judge : zM := (yX5_judge, cX5_judge, 5, none, 4, 100, 0, 0)
theorem kcX5_judge : zCal mX5_judge 3 := ⟨zin (zt3 (List.mem_of_getElem? (i := 6) rfl)) rfl, zin (zt1 (List.mem_of_getElem? (i := 8) (by decide +kernel))) rfl, ⟨by decide +kernel, by decide +kernel, by decide +kernel⟩, by decide +kernel⟩
theorem viX5_judge : zVir mX5_judge 5 := ⟨zin (zt3 (List.mem_of_getElem? (i := 4) (by decide +kernel))) rfl, zin (zt3 (List.mem_of_getElem? (i := 5) (by decide +kernel))) rfl, _, _, rfl⟩
theorem imX5_judge : Cond.instanceMethod yX5_judge ∈ zTB := zin (zt3 (List.mem_of_getElem? (i := 4) (by decide +kernel))) rfl
abbrev mX5_weigh : zM := (yX5_weigh, cX5_weigh, 3, some .int, 1, 20, 0, 0)
theorem kcX5_weigh : zCal mX5_weigh 0 := ⟨zin (zt3 (List.mem_of_getElem? (i := 10) rfl)) rfl, zin (zt1 (List.mem_of_getElem? (i := 8) (by decide +kernel))) rfl, ⟨by decide +kernel, by decide +kernel, by decide +kernel⟩, by decide +kernel⟩
theorem viX5_weigh : zVir mX5_weigh 5 := ⟨zin (zt3 (List.mem_of_getElem? (i := 9) (by decide +kernel))) rfl, zin (zt0 (List.mem_of_getElem? (i := 1) (by decide +kernel))) rfl, _, _, rfl⟩
theorem imX5_weigh : Cond.instanceMethod yX5_weigh ∈ zTB := zin (zt3 (List.mem_of_getElem? (i := 9) (by decide +kernel))) rfl
abbrev mX5_isHeld : zM := (yX5_isHeld, cX5_isHeld, 1, some .boolean, 0, 0, 0, 0)
theorem kcX5_isHeld : zCal mX5_isHeld 0 := ⟨zin (zt4 (List.mem_of_getElem? (i := 5) rfl)) rfl, zin (zt1 (List.mem_of_getElem? (i := 8) (by decide +kernel))) rfl, ⟨by decide +kernel, by decide +kernel, by decide +kernel⟩, by decide +kernel⟩
theorem viX5_isHeld : zVir mX5_isHeld 5 := ⟨zin (zt4 (List.mem_of_getElem? (i := 3) (by decide +kernel))) rfl, zin (zt4 (List.mem_of_getElem? (i := 4) (by decide +kernel))) rfl, _, _, rfl⟩
theorem imX5_isHeld : Cond.instanceMethod yX5_isHeld ∈ zTB := zin (zt4 (List.mem_of_getElem? (i := 3) (by decide +kernel))) rfl
abbrev mX5_shadow : zM := (yX5_shadow, cX5_shadow, 3, none, 4, 100, 0, 0)
theorem kcX5_shadow : zCal mX5_shadow 2 := ⟨zin (zt3 (List.mem_of_getElem? (i := 88) rfl)) rfl, zin (zt1 (List.mem_of_getElem? (i := 8) (by decide +kernel))) rfl, ⟨by decide +kernel, by decide +kernel, by decide +kernel⟩, by decide +kernel⟩
theorem viX5_shadow : zVir mX5_shadow 5 := ⟨zin (zt3 (List.mem_of_getElem? (i := 86) (by decide +kernel))) rfl, zin (zt3 (List.mem_of_getElem? (i := 87) (by decide +kernel))) rfl, _, _, rfl⟩
theorem imX5_shadow : Cond.instanceMethod yX5_shadow ∈ zTB := zin (zt3 (List.mem_of_getElem? (i := 86) (by decide +kernel))) rfl
abbrev mX6_init : zM := (yX6_init, cX6_init, 1, none, 2, 40, 15, 23006)
theorem kcX6_init : zCal mX6_init 0 := ⟨zin (zt2 (List.mem_of_getElem? (i := 36) rfl)) rfl, zin (zt1 (List.mem_of_getElem? (i := 12) (by decide +kernel))) rfl, ⟨by decide +kernel, by decide +kernel, by decide +kernel⟩, by decide +kernel⟩
theorem imX6_init : Cond.instanceMethod yX6_init ∈ zTB := zin (zt2 (List.mem_of_getElem? (i := 35) (by decide +kernel))) rfl
abbrev mX6_learn : zM := (yX6_learn, cX6_learn, 4, none, 4, 101, 0, 0)
theorem kcX6_learn : zCal mX6_learn 1 := ⟨zin (zt4 (List.mem_of_getElem? (i := 181) rfl)) rfl, zin (zt1 (List.mem_of_getElem? (i := 12) (by decide +kernel))) rfl, ⟨by decide +kernel, by decide +kernel, by decide +kernel⟩, by decide +kernel⟩
theorem viX6_learn : zVir mX6_learn 6 := ⟨zin (zt4 (List.mem_of_getElem? (i := 179) (by decide +kernel))) rfl, zin (zt4 (List.mem_of_getElem? (i := 180) (by decide +kernel))) rfl, _, _, rfl⟩
theorem imX6_learn : Cond.instanceMethod yX6_learn ∈ zTB := zin (zt4 (List.mem_of_getElem? (i := 179) (by decide +kernel))) rfl
abbrev mX6_learnFinger : zM := (yX6_learnFinger, cX6_learnFinger, 6, none, 3, 76, 0, 0)
theorem kcX6_learnFinger : zCal mX6_learnFinger 2 := ⟨zin (zt4 (List.mem_of_getElem? (i := 190) rfl)) rfl, zin (zt1 (List.mem_of_getElem? (i := 12) (by decide +kernel))) rfl, ⟨by decide +kernel, by decide +kernel, by decide +kernel⟩, by decide +kernel⟩
theorem viX6_learnFinger : zVir mX6_learnFinger 6 := ⟨zin (zt4 (List.mem_of_getElem? (i := 189) (by decide +kernel))) rfl, zin (zt0 (List.mem_of_getElem? (i := 18) (by decide +kernel))) rfl, _, _, rfl⟩
theorem imX6_learnFinger : Cond.instanceMethod yX6_learnFinger ∈ zTB := zin (zt4 (List.mem_of_getElem? (i := 189) (by decide +kernel))) rfl
abbrev mX6_combine : zM := (yX6_combine, cX6_combine, 4, none, 3, 73, 0, 0)
theorem kcX6_combine : zCal mX6_combine 2 := ⟨zin (zt4 (List.mem_of_getElem? (i := 204) rfl)) rfl, zin (zt1 (List.mem_of_getElem? (i := 12) (by decide +kernel))) rfl, ⟨by decide +kernel, by decide +kernel, by decide +kernel⟩, by decide +kernel⟩
theorem viX6_combine : zVir mX6_combine 6 := ⟨zin (zt4 (List.mem_of_getElem? (i := 202) (by decide +kernel))) rfl, zin (zt4 (List.mem_of_getElem? (i := 203) (by decide +kernel))) rfl, _, _, rfl⟩
theorem imX6_combine : Cond.instanceMethod yX6_combine ∈ zTB := zin (zt4 (List.mem_of_getElem? (i := 202) (by decide +kernel))) rfl
abbrev mX6_shade : zM := (yX6_shade, cX6_shade, 7, none, 4, 100, 0, 0)
theorem kcX6_shade : zCal mX6_shade 3 := ⟨zin (zt3 (List.mem_of_getElem? (i := 174) rfl)) rfl, zin (zt1 (List.mem_of_getElem? (i := 12) (by decide +kernel))) rfl, ⟨by decide +kernel, by decide +kernel, by decide +kernel⟩, by decide +kernel⟩
theorem viX6_shade : zVir mX6_shade 6 := ⟨zin (zt3 (List.mem_of_getElem? (i := 172) (by decide +kernel))) rfl, zin (zt3 (List.mem_of_getElem? (i := 173) (by decide +kernel))) rfl, _, _, rfl⟩
theorem imX6_shade : Cond.instanceMethod yX6_shade ∈ zTB := zin (zt3 (List.mem_of_getElem? (i := 172) (by decide +kernel))) rfl
abbrev mX6_join : zM := (yX6_join, cX6_join, 9, none, 0, 0, 0, 0)
theorem kcX6_join : zCal mX6_join 5 := ⟨zin (zt3 (List.mem_of_getElem? (i := 179) rfl)) rfl, zin (zt1 (List.mem_of_getElem? (i := 12) (by decide +kernel))) rfl, ⟨by decide +kernel, by decide +kernel, by decide +kernel⟩, by decide +kernel⟩
theorem smX6_join : Cond.static yX6_join ∈ zTB := zin (zt3 (List.mem_of_getElem? (i := 178) (by decide +kernel))) rfl
abbrev mX6_joinLoads : zM := (yX6_joinLoads, cX6_joinLoads, 7, none, 1, 23, 0, 0)
theorem kcX6_joinLoads : zCal mX6_joinLoads 2 := ⟨zin (zt4 (List.mem_of_getElem? (i := 208) rfl)) rfl, zin (zt1 (List.mem_of_getElem? (i := 12) (by decide +kernel))) rfl, ⟨by decide +kernel, by decide +kernel, by decide +kernel⟩, by decide +kernel⟩
theorem viX6_joinLoads : zVir mX6_joinLoads 6 := ⟨zin (zt4 (List.mem_of_getElem? (i := 207) (by decide +kernel))) rfl, zin (zt0 (List.mem_of_getElem? (i := 19) (by decide +kernel))) rfl, _, _, rfl⟩
theorem imX6_joinLoads : Cond.instanceMethod yX6_joinLoads ∈ zTB := zin (zt4 (List.mem_of_getElem? (i := 207) (by decide +kernel))) rfl
abbrev mX6_joinedLoad : zM := (yX6_joinedLoad, cX6_joinedLoad, 4, some .byte, 0, 0, 0, 0)
theorem kcX6_joinedLoad : zCal mX6_joinedLoad 3 := ⟨zin (zt4 (List.mem_of_getElem? (i := 212) rfl)) rfl, zin (zt1 (List.mem_of_getElem? (i := 12) (by decide +kernel))) rfl, ⟨by decide +kernel, by decide +kernel, by decide +kernel⟩, by decide +kernel⟩
theorem viX6_joinedLoad : zVir mX6_joinedLoad 6 := ⟨zin (zt4 (List.mem_of_getElem? (i := 211) (by decide +kernel))) rfl, zin (zt0 (List.mem_of_getElem? (i := 20) (by decide +kernel))) rfl, _, _, rfl⟩
theorem imX6_joinedLoad : Cond.instanceMethod yX6_joinedLoad ∈ zTB := zin (zt4 (List.mem_of_getElem? (i := 211) (by decide +kernel))) rfl
abbrev mX6_isBarred : zM := (yX6_isBarred, cX6_isBarred, 2, some .boolean, 0, 0, 0, 0)
theorem kcX6_isBarred : zCal mX6_isBarred 1 := ⟨zin (zt3 (List.mem_of_getElem? (i := 165) rfl)) rfl, zin (zt1 (List.mem_of_getElem? (i := 12) (by decide +kernel))) rfl, ⟨by decide +kernel, by decide +kernel, by decide +kernel⟩, by decide +kernel⟩
theorem viX6_isBarred : zVir mX6_isBarred 6 := ⟨zin (zt3 (List.mem_of_getElem? (i := 163) (by decide +kernel))) rfl, zin (zt3 (List.mem_of_getElem? (i := 164) (by decide +kernel))) rfl, _, _, rfl⟩
theorem imX6_isBarred : Cond.instanceMethod yX6_isBarred ∈ zTB := zin (zt3 (List.mem_of_getElem? (i := 163) (by decide +kernel))) rfl
abbrev mX6_isHeld : zM := (yX6_isHeld, cX6_isHeld, 3, some .boolean, 1, 21, 0, 0)
theorem kcX6_isHeld : zCal mX6_isHeld 2 := ⟨zin (zt3 (List.mem_of_getElem? (i := 161) rfl)) rfl, zin (zt1 (List.mem_of_getElem? (i := 12) (by decide +kernel))) rfl, ⟨by decide +kernel, by decide +kernel, by decide +kernel⟩, by decide +kernel⟩
theorem viX6_isHeld : zVir mX6_isHeld 6 := ⟨zin (zt3 (List.mem_of_getElem? (i := 159) (by decide +kernel))) rfl, zin (zt3 (List.mem_of_getElem? (i := 160) (by decide +kernel))) rfl, _, _, rfl⟩
theorem imX6_isHeld : Cond.instanceMethod yX6_isHeld ∈ zTB := zin (zt3 (List.mem_of_getElem? (i := 159) (by decide +kernel))) rfl
abbrev mX6_turnAt : zM := (yX6_turnAt, cX6_turnAt, 4, some .int, 0, 0, 0, 0)
theorem kcX6_turnAt : zCal mX6_turnAt 3 := ⟨zin (zt3 (List.mem_of_getElem? (i := 188) rfl)) rfl, zin (zt1 (List.mem_of_getElem? (i := 12) (by decide +kernel))) rfl, ⟨by decide +kernel, by decide +kernel, by decide +kernel⟩, by decide +kernel⟩
theorem viX6_turnAt : zVir mX6_turnAt 6 := ⟨zin (zt3 (List.mem_of_getElem? (i := 186) (by decide +kernel))) rfl, zin (zt3 (List.mem_of_getElem? (i := 187) (by decide +kernel))) rfl, _, _, rfl⟩
theorem imX6_turnAt : Cond.instanceMethod yX6_turnAt ∈ zTB := zin (zt3 (List.mem_of_getElem? (i := 186) (by decide +kernel))) rfl
abbrev mX6_placeOf : zM := (yX6_placeOf, cX6_placeOf, 5, some .int, 0, 0, 0, 0)
theorem kcX6_placeOf : zCal mX6_placeOf 2 := ⟨zin (zt4 (List.mem_of_getElem? (i := 18) rfl)) rfl, zin (zt1 (List.mem_of_getElem? (i := 12) (by decide +kernel))) rfl, ⟨by decide +kernel, by decide +kernel, by decide +kernel⟩, by decide +kernel⟩
theorem viX6_placeOf : zVir mX6_placeOf 6 := ⟨zin (zt4 (List.mem_of_getElem? (i := 16) (by decide +kernel))) rfl, zin (zt4 (List.mem_of_getElem? (i := 17) (by decide +kernel))) rfl, _, _, rfl⟩
theorem imX6_placeOf : Cond.instanceMethod yX6_placeOf ∈ zTB := zin (zt4 (List.mem_of_getElem? (i := 16) (by decide +kernel))) rfl
abbrev mX6_offOf : zM := (yX6_offOf, cX6_offOf, 3, some .int, 3, 69, 0, 0)
theorem kcX6_offOf : zCal mX6_offOf 2 := ⟨zin (zt3 (List.mem_of_getElem? (i := 192) rfl)) rfl, zin (zt1 (List.mem_of_getElem? (i := 12) (by decide +kernel))) rfl, ⟨by decide +kernel, by decide +kernel, by decide +kernel⟩, by decide +kernel⟩
theorem viX6_offOf : zVir mX6_offOf 6 := ⟨zin (zt3 (List.mem_of_getElem? (i := 190) (by decide +kernel))) rfl, zin (zt3 (List.mem_of_getElem? (i := 191) (by decide +kernel))) rfl, _, _, rfl⟩
theorem imX6_offOf : Cond.instanceMethod yX6_offOf ∈ zTB := zin (zt3 (List.mem_of_getElem? (i := 190) (by decide +kernel))) rfl
abbrev mX6_nearestTurns : zM := (yX6_nearestTurns, cX6_nearestTurns, 9, some .int, 4, 91, 0, 0)
theorem kcX6_nearestTurns : zCal mX6_nearestTurns 4 := ⟨zin (zt3 (List.mem_of_getElem? (i := 183) rfl)) rfl, zin (zt1 (List.mem_of_getElem? (i := 12) (by decide +kernel))) rfl, ⟨by decide +kernel, by decide +kernel, by decide +kernel⟩, by decide +kernel⟩
theorem viX6_nearestTurns : zVir mX6_nearestTurns 6 := ⟨zin (zt3 (List.mem_of_getElem? (i := 181) (by decide +kernel))) rfl, zin (zt3 (List.mem_of_getElem? (i := 182) (by decide +kernel))) rfl, _, _, rfl⟩
theorem imX6_nearestTurns : Cond.instanceMethod yX6_nearestTurns ∈ zTB := zin (zt3 (List.mem_of_getElem? (i := 181) (by decide +kernel))) rfl
abbrev mX6_leastOff : zM := (yX6_leastOff, cX6_leastOff, 5, some .int, 5, 119, 0, 0)
theorem kcX6_leastOff : zCal mX6_leastOff 4 := ⟨zin (zt4 (List.mem_of_getElem? (i := 80) rfl)) rfl, zin (zt1 (List.mem_of_getElem? (i := 12) (by decide +kernel))) rfl, ⟨by decide +kernel, by decide +kernel, by decide +kernel⟩, by decide +kernel⟩
theorem viX6_leastOff : zVir mX6_leastOff 6 := ⟨zin (zt4 (List.mem_of_getElem? (i := 78) (by decide +kernel))) rfl, zin (zt4 (List.mem_of_getElem? (i := 79) (by decide +kernel))) rfl, _, _, rfl⟩
theorem imX6_leastOff : Cond.instanceMethod yX6_leastOff ∈ zTB := zin (zt4 (List.mem_of_getElem? (i := 78) (by decide +kernel))) rfl
abbrev mX6_joinDark : zM := (yX6_joinDark, cX6_joinDark, 4, none, 2, 43, 0, 0)
theorem kcX6_joinDark : zCal mX6_joinDark 2 := ⟨zin (zt3 (List.mem_of_getElem? (i := 205) rfl)) rfl, zin (zt1 (List.mem_of_getElem? (i := 12) (by decide +kernel))) rfl, ⟨by decide +kernel, by decide +kernel, by decide +kernel⟩, by decide +kernel⟩
theorem viX6_joinDark : zVir mX6_joinDark 6 := ⟨zin (zt3 (List.mem_of_getElem? (i := 203) (by decide +kernel))) rfl, zin (zt3 (List.mem_of_getElem? (i := 204) (by decide +kernel))) rfl, _, _, rfl⟩
theorem imX6_joinDark : Cond.instanceMethod yX6_joinDark ∈ zTB := zin (zt3 (List.mem_of_getElem? (i := 203) (by decide +kernel))) rfl
abbrev mX6_throwsJust : zM := (yX6_throwsJust, cX6_throwsJust, 4, some .boolean, 2, 43, 0, 0)
theorem kcX6_throwsJust : zCal mX6_throwsJust 3 := ⟨zin (zt3 (List.mem_of_getElem? (i := 229) rfl)) rfl, zin (zt1 (List.mem_of_getElem? (i := 12) (by decide +kernel))) rfl, ⟨by decide +kernel, by decide +kernel, by decide +kernel⟩, by decide +kernel⟩
theorem viX6_throwsJust : zVir mX6_throwsJust 6 := ⟨zin (zt3 (List.mem_of_getElem? (i := 228) (by decide +kernel))) rfl, zin (zt0 (List.mem_of_getElem? (i := 5) (by decide +kernel))) rfl, _, _, rfl⟩
theorem imX6_throwsJust : Cond.instanceMethod yX6_throwsJust ∈ zTB := zin (zt3 (List.mem_of_getElem? (i := 228) (by decide +kernel))) rfl
abbrev mX6_numberThrowing : zM := (yX6_numberThrowing, cX6_numberThrowing, 5, some .int, 3, 66, 0, 0)
theorem kcX6_numberThrowing : zCal mX6_numberThrowing 2 := ⟨zin (zt3 (List.mem_of_getElem? (i := 237) rfl)) rfl, zin (zt1 (List.mem_of_getElem? (i := 12) (by decide +kernel))) rfl, ⟨by decide +kernel, by decide +kernel, by decide +kernel⟩, by decide +kernel⟩
theorem viX6_numberThrowing : zVir mX6_numberThrowing 6 := ⟨zin (zt3 (List.mem_of_getElem? (i := 235) (by decide +kernel))) rfl, zin (zt3 (List.mem_of_getElem? (i := 236) (by decide +kernel))) rfl, _, _, rfl⟩
theorem imX6_numberThrowing : Cond.instanceMethod yX6_numberThrowing ∈ zTB := zin (zt3 (List.mem_of_getElem? (i := 235) (by decide +kernel))) rfl
abbrev mX6_alikeJoints : zM := (yX6_alikeJoints, cX6_alikeJoints, 8, some .int, 3, 66, 0, 0)
theorem kcX6_alikeJoints : zCal mX6_alikeJoints 3 := ⟨zin (zt3 (List.mem_of_getElem? (i := 225) rfl)) rfl, zin (zt1 (List.mem_of_getElem? (i := 12) (by decide +kernel))) rfl, ⟨by decide +kernel, by decide +kernel, by decide +kernel⟩, by decide +kernel⟩
theorem viX6_alikeJoints : zVir mX6_alikeJoints 6 := ⟨zin (zt3 (List.mem_of_getElem? (i := 223) (by decide +kernel))) rfl, zin (zt3 (List.mem_of_getElem? (i := 224) (by decide +kernel))) rfl, _, _, rfl⟩
theorem imX6_alikeJoints : Cond.instanceMethod yX6_alikeJoints ∈ zTB := zin (zt3 (List.mem_of_getElem? (i := 223) (by decide +kernel))) rfl
abbrev mX7_init : zM := (yX7_init, cX7_init, 1, none, 1, 20, 0, 0)
theorem kcX7_init : zCal mX7_init 0 := ⟨zin (zt1 (List.mem_of_getElem? (i := 70) rfl)) rfl, zin (zt1 (List.mem_of_getElem? (i := 5) (by decide +kernel))) rfl, ⟨by decide +kernel, by decide +kernel, by decide +kernel⟩, by decide +kernel⟩
theorem imX7_init : Cond.instanceMethod yX7_init ∈ zTB := zin (zt1 (List.mem_of_getElem? (i := 69) (by decide +kernel))) rfl
abbrev mX7_read : zM := (yX7_read, cX7_read, 4, some .int, 6, 126, 0, 0)
theorem kcX7_read : zCal mX7_read 2 := ⟨zin (zt4 (List.mem_of_getElem? (i := 120) rfl)) rfl, zin (zt1 (List.mem_of_getElem? (i := 5) (by decide +kernel))) rfl, ⟨by decide +kernel, by decide +kernel, by decide +kernel⟩, by decide +kernel⟩
theorem viX7_read : zVir mX7_read 7 := ⟨zin (zt4 (List.mem_of_getElem? (i := 118) (by decide +kernel))) rfl, zin (zt4 (List.mem_of_getElem? (i := 119) (by decide +kernel))) rfl, _, _, rfl⟩
theorem imX7_read : Cond.instanceMethod yX7_read ∈ zTB := zin (zt4 (List.mem_of_getElem? (i := 118) (by decide +kernel))) rfl
abbrev mX7_readOne : zM := (yX7_readOne, cX7_readOne, 2, some .boolean, 5, 105, 0, 0)
theorem kcX7_readOne : zCal mX7_readOne 0 := ⟨zin (zt4 (List.mem_of_getElem? (i := 128) rfl)) rfl, zin (zt1 (List.mem_of_getElem? (i := 5) (by decide +kernel))) rfl, ⟨by decide +kernel, by decide +kernel, by decide +kernel⟩, by decide +kernel⟩
theorem viX7_readOne : zVir mX7_readOne 7 := ⟨zin (zt4 (List.mem_of_getElem? (i := 127) (by decide +kernel))) rfl, zin (zt0 (List.mem_of_getElem? (i := 11) (by decide +kernel))) rfl, _, _, rfl⟩
theorem imX7_readOne : Cond.instanceMethod yX7_readOne ∈ zTB := zin (zt4 (List.mem_of_getElem? (i := 127) (by decide +kernel))) rfl
abbrev mX7_readHand : zM := (yX7_readHand, cX7_readHand, 4, some .boolean, 3, 63, 0, 0)
theorem kcX7_readHand : zCal mX7_readHand 0 := ⟨zin (zt4 (List.mem_of_getElem? (i := 133) rfl)) rfl, zin (zt1 (List.mem_of_getElem? (i := 5) (by decide +kernel))) rfl, ⟨by decide +kernel, by decide +kernel, by decide +kernel⟩, by decide +kernel⟩
theorem viX7_readHand : zVir mX7_readHand 7 := ⟨zin (zt4 (List.mem_of_getElem? (i := 132) (by decide +kernel))) rfl, zin (zt0 (List.mem_of_getElem? (i := 12) (by decide +kernel))) rfl, _, _, rfl⟩
theorem imX7_readHand : Cond.instanceMethod yX7_readHand ∈ zTB := zin (zt4 (List.mem_of_getElem? (i := 132) (by decide +kernel))) rfl
abbrev mX7_readFinger : zM := (yX7_readFinger, cX7_readFinger, 2, some .boolean, 4, 84, 0, 0)
theorem kcX7_readFinger : zCal mX7_readFinger 0 := ⟨zin (zt4 (List.mem_of_getElem? (i := 146) rfl)) rfl, zin (zt1 (List.mem_of_getElem? (i := 5) (by decide +kernel))) rfl, ⟨by decide +kernel, by decide +kernel, by decide +kernel⟩, by decide +kernel⟩
theorem viX7_readFinger : zVir mX7_readFinger 7 := ⟨zin (zt4 (List.mem_of_getElem? (i := 145) (by decide +kernel))) rfl, zin (zt0 (List.mem_of_getElem? (i := 14) (by decide +kernel))) rfl, _, _, rfl⟩
theorem imX7_readFinger : Cond.instanceMethod yX7_readFinger ∈ zTB := zin (zt4 (List.mem_of_getElem? (i := 145) (by decide +kernel))) rfl
abbrev mX7_readJoint : zM := (yX7_readJoint, cX7_readJoint, 2, some .boolean, 3, 63, 0, 0)
theorem kcX7_readJoint : zCal mX7_readJoint 0 := ⟨zin (zt4 (List.mem_of_getElem? (i := 154) rfl)) rfl, zin (zt1 (List.mem_of_getElem? (i := 5) (by decide +kernel))) rfl, ⟨by decide +kernel, by decide +kernel, by decide +kernel⟩, by decide +kernel⟩
theorem viX7_readJoint : zVir mX7_readJoint 7 := ⟨zin (zt4 (List.mem_of_getElem? (i := 153) (by decide +kernel))) rfl, zin (zt0 (List.mem_of_getElem? (i := 15) (by decide +kernel))) rfl, _, _, rfl⟩
theorem imX7_readJoint : Cond.instanceMethod yX7_readJoint ∈ zTB := zin (zt4 (List.mem_of_getElem? (i := 153) (by decide +kernel))) rfl
abbrev mX7_isTurn : zM := (yX7_isTurn, cX7_isTurn, 1, some .boolean, 0, 0, 0, 0)
theorem kcX7_isTurn : zCal mX7_isTurn 1 := ⟨zin (zt4 (List.mem_of_getElem? (i := 157) rfl)) rfl, zin (zt1 (List.mem_of_getElem? (i := 5) (by decide +kernel))) rfl, ⟨by decide +kernel, by decide +kernel, by decide +kernel⟩, by decide +kernel⟩
theorem smX7_isTurn : Cond.static yX7_isTurn ∈ zTB := zin (zt4 (List.mem_of_getElem? (i := 156) (by decide +kernel))) rfl
abbrev mX7_figure : zM := (yX7_figure, cX7_figure, 2, some .int, 2, 42, 0, 0)
theorem kcX7_figure : zCal mX7_figure 0 := ⟨zin (zt4 (List.mem_of_getElem? (i := 137) rfl)) rfl, zin (zt1 (List.mem_of_getElem? (i := 5) (by decide +kernel))) rfl, ⟨by decide +kernel, by decide +kernel, by decide +kernel⟩, by decide +kernel⟩
theorem viX7_figure : zVir mX7_figure 7 := ⟨zin (zt4 (List.mem_of_getElem? (i := 136) (by decide +kernel))) rfl, zin (zt0 (List.mem_of_getElem? (i := 13) (by decide +kernel))) rfl, _, _, rfl⟩
theorem imX7_figure : Cond.instanceMethod yX7_figure ∈ zTB := zin (zt4 (List.mem_of_getElem? (i := 136) (by decide +kernel))) rfl
abbrev mX8_init : zM := (yX8_init, cX8_init, 2, none, 1, 21, 1, 40)
theorem kcX8_init : zCal mX8_init 1 := ⟨zin (zt1 (List.mem_of_getElem? (i := 52) rfl)) rfl, zin (zt1 (List.mem_of_getElem? (i := 3) (by decide +kernel))) rfl, ⟨by decide +kernel, by decide +kernel, by decide +kernel⟩, by decide +kernel⟩
theorem imX8_init : Cond.instanceMethod yX8_init ∈ zTB := zin (zt1 (List.mem_of_getElem? (i := 51) (by decide +kernel))) rfl
abbrev mX8_isThere : zM := (yX8_isThere, cX8_isThere, 1, some .boolean, 0, 0, 0, 0)
theorem kcX8_isThere : zCal mX8_isThere 0 := ⟨zin (zt2 (List.mem_of_getElem? (i := 199) rfl)) rfl, zin (zt1 (List.mem_of_getElem? (i := 3) (by decide +kernel))) rfl, ⟨by decide +kernel, by decide +kernel, by decide +kernel⟩, by decide +kernel⟩
theorem viX8_isThere : zVir mX8_isThere 8 := ⟨zin (zt2 (List.mem_of_getElem? (i := 197) (by decide +kernel))) rfl, zin (zt2 (List.mem_of_getElem? (i := 198) (by decide +kernel))) rfl, _, _, rfl⟩
theorem imX8_isThere : Cond.instanceMethod yX8_isThere ∈ zTB := zin (zt2 (List.mem_of_getElem? (i := 197) (by decide +kernel))) rfl
abbrev mX8_renew : zM := (yX8_renew, cX8_renew, 4, none, 0, 0, 0, 0)
theorem kcX8_renew : zCal mX8_renew 2 := ⟨zin (zt3 (List.mem_of_getElem? (i := 62) rfl)) rfl, zin (zt1 (List.mem_of_getElem? (i := 3) (by decide +kernel))) rfl, ⟨by decide +kernel, by decide +kernel, by decide +kernel⟩, by decide +kernel⟩
theorem viX8_renew : zVir mX8_renew 8 := ⟨zin (zt3 (List.mem_of_getElem? (i := 60) (by decide +kernel))) rfl, zin (zt3 (List.mem_of_getElem? (i := 61) (by decide +kernel))) rfl, _, _, rfl⟩
theorem imX8_renew : Cond.instanceMethod yX8_renew ∈ zTB := zin (zt3 (List.mem_of_getElem? (i := 60) (by decide +kernel))) rfl
abbrev mX8_holds : zM := (yX8_holds, cX8_holds, 2, some .boolean, 0, 0, 0, 0)
theorem kcX8_holds : zCal mX8_holds 1 := ⟨zin (zt2 (List.mem_of_getElem? (i := 207) rfl)) rfl, zin (zt1 (List.mem_of_getElem? (i := 3) (by decide +kernel))) rfl, ⟨by decide +kernel, by decide +kernel, by decide +kernel⟩, by decide +kernel⟩
theorem viX8_holds : zVir mX8_holds 8 := ⟨zin (zt2 (List.mem_of_getElem? (i := 205) (by decide +kernel))) rfl, zin (zt2 (List.mem_of_getElem? (i := 206) (by decide +kernel))) rfl, _, _, rfl⟩
theorem imX8_holds : Cond.instanceMethod yX8_holds ∈ zTB := zin (zt2 (List.mem_of_getElem? (i := 205) (by decide +kernel))) rfl
abbrev mX8_get : zM := (yX8_get, cX8_get, 2, some .int, 1, 21, 0, 0)
theorem kcX8_get : zCal mX8_get 1 := ⟨zin (zt2 (List.mem_of_getElem? (i := 211) rfl)) rfl, zin (zt1 (List.mem_of_getElem? (i := 3) (by decide +kernel))) rfl, ⟨by decide +kernel, by decide +kernel, by decide +kernel⟩, by decide +kernel⟩
theorem viX8_get : zVir mX8_get 8 := ⟨zin (zt2 (List.mem_of_getElem? (i := 209) (by decide +kernel))) rfl, zin (zt2 (List.mem_of_getElem? (i := 210) (by decide +kernel))) rfl, _, _, rfl⟩
theorem imX8_get : Cond.instanceMethod yX8_get ∈ zTB := zin (zt2 (List.mem_of_getElem? (i := 209) (by decide +kernel))) rfl
abbrev mX8_set : zM := (yX8_set, cX8_set, 3, none, 1, 21, 0, 0)
theorem kcX8_set : zCal mX8_set 2 := ⟨zin (zt3 (List.mem_of_getElem? (i := 70) rfl)) rfl, zin (zt1 (List.mem_of_getElem? (i := 3) (by decide +kernel))) rfl, ⟨by decide +kernel, by decide +kernel, by decide +kernel⟩, by decide +kernel⟩
theorem viX8_set : zVir mX8_set 8 := ⟨zin (zt3 (List.mem_of_getElem? (i := 68) (by decide +kernel))) rfl, zin (zt3 (List.mem_of_getElem? (i := 69) (by decide +kernel))) rfl, _, _, rfl⟩
theorem imX8_set : Cond.instanceMethod yX8_set ∈ zTB := zin (zt3 (List.mem_of_getElem? (i := 68) (by decide +kernel))) rfl
abbrev mX8_hasLines : zM := (yX8_hasLines, cX8_hasLines, 2, some .boolean, 2, 42, 0, 0)
theorem kcX8_hasLines : zCal mX8_hasLines 0 := ⟨zin (zt3 (List.mem_of_getElem? (i := 127) rfl)) rfl, zin (zt1 (List.mem_of_getElem? (i := 3) (by decide +kernel))) rfl, ⟨by decide +kernel, by decide +kernel, by decide +kernel⟩, by decide +kernel⟩
theorem viX8_hasLines : zVir mX8_hasLines 8 := ⟨zin (zt3 (List.mem_of_getElem? (i := 125) (by decide +kernel))) rfl, zin (zt3 (List.mem_of_getElem? (i := 126) (by decide +kernel))) rfl, _, _, rfl⟩
theorem imX8_hasLines : Cond.instanceMethod yX8_hasLines ∈ zTB := zin (zt3 (List.mem_of_getElem? (i := 125) (by decide +kernel))) rfl
abbrev mX8_showCells : zM := (yX8_showCells, cX8_showCells, 3, none, 2, 43, 0, 0)
theorem kcX8_showCells : zCal mX8_showCells 1 := ⟨zin (zt3 (List.mem_of_getElem? (i := 58) rfl)) rfl, zin (zt1 (List.mem_of_getElem? (i := 3) (by decide +kernel))) rfl, ⟨by decide +kernel, by decide +kernel, by decide +kernel⟩, by decide +kernel⟩
theorem viX8_showCells : zVir mX8_showCells 8 := ⟨zin (zt3 (List.mem_of_getElem? (i := 56) (by decide +kernel))) rfl, zin (zt3 (List.mem_of_getElem? (i := 57) (by decide +kernel))) rfl, _, _, rfl⟩
theorem imX8_showCells : Cond.instanceMethod yX8_showCells ∈ zTB := zin (zt3 (List.mem_of_getElem? (i := 56) (by decide +kernel))) rfl
abbrev mX8_showTo : zM := (yX8_showTo, cX8_showTo, 3, none, 2, 42, 0, 0)
theorem kcX8_showTo : zCal mX8_showTo 1 := ⟨zin (zt3 (List.mem_of_getElem? (i := 132) rfl)) rfl, zin (zt1 (List.mem_of_getElem? (i := 3) (by decide +kernel))) rfl, ⟨by decide +kernel, by decide +kernel, by decide +kernel⟩, by decide +kernel⟩
theorem viX8_showTo : zVir mX8_showTo 8 := ⟨zin (zt3 (List.mem_of_getElem? (i := 130) (by decide +kernel))) rfl, zin (zt3 (List.mem_of_getElem? (i := 131) (by decide +kernel))) rfl, _, _, rfl⟩
theorem imX8_showTo : Cond.instanceMethod yX8_showTo ∈ zTB := zin (zt3 (List.mem_of_getElem? (i := 130) (by decide +kernel))) rfl
abbrev mX9_init : zM := (yX9_init, cX9_init, 1, none, 1, 20, 1, 6)
theorem kcX9_init : zCal mX9_init 0 := ⟨zin (zt1 (List.mem_of_getElem? (i := 28) rfl)) rfl, zin (zt1 (List.mem_of_getElem? (i := 2) (by decide +kernel))) rfl, ⟨by decide +kernel, by decide +kernel, by decide +kernel⟩, by decide +kernel⟩
theorem imX9_init : Cond.instanceMethod yX9_init ∈ zTB := zin (zt1 (List.mem_of_getElem? (i := 27) (by decide +kernel))) rfl
abbrev mX9_tell : zM := (yX9_tell, cX9_tell, 2, some .int, 0, 0, 0, 0)
theorem kcX9_tell : zCal mX9_tell 1 := ⟨zin (zt2 (List.mem_of_getElem? (i := 216) rfl)) rfl, zin (zt1 (List.mem_of_getElem? (i := 2) (by decide +kernel))) rfl, ⟨by decide +kernel, by decide +kernel, by decide +kernel⟩, by decide +kernel⟩
theorem viX9_tell : zVir mX9_tell 9 := ⟨zin (zt2 (List.mem_of_getElem? (i := 214) (by decide +kernel))) rfl, zin (zt2 (List.mem_of_getElem? (i := 215) (by decide +kernel))) rfl, _, _, rfl⟩
theorem imX9_tell : Cond.instanceMethod yX9_tell ∈ zTB := zin (zt2 (List.mem_of_getElem? (i := 214) (by decide +kernel))) rfl
abbrev mX9_find : zM := (yX9_find, cX9_find, 2, some .int, 0, 0, 0, 0)
theorem kcX9_find : zCal mX9_find 1 := ⟨zin (zt2 (List.mem_of_getElem? (i := 203) rfl)) rfl, zin (zt1 (List.mem_of_getElem? (i := 2) (by decide +kernel))) rfl, ⟨by decide +kernel, by decide +kernel, by decide +kernel⟩, by decide +kernel⟩
theorem viX9_find : zVir mX9_find 9 := ⟨zin (zt2 (List.mem_of_getElem? (i := 201) (by decide +kernel))) rfl, zin (zt2 (List.mem_of_getElem? (i := 202) (by decide +kernel))) rfl, _, _, rfl⟩
theorem imX9_find : Cond.instanceMethod yX9_find ∈ zTB := zin (zt2 (List.mem_of_getElem? (i := 201) (by decide +kernel))) rfl
abbrev mX10_init : zM := (yX10_init, cX10_init, 1, none, 1, 20, 15, 10336)
theorem kcX10_init : zCal mX10_init 0 := ⟨zin (zt2 (List.mem_of_getElem? (i := 102) rfl)) rfl, zin (zt1 (List.mem_of_getElem? (i := 13) (by decide +kernel))) rfl, ⟨by decide +kernel, by decide +kernel, by decide +kernel⟩, by decide +kernel⟩
theorem imX10_init : Cond.instanceMethod yX10_init ∈ zTB := zin (zt2 (List.mem_of_getElem? (i := 101) (by decide +kernel))) rfl
abbrev mX10_openHeld : zM := (yX10_openHeld, cX10_openHeld, 4, none, 2, 43, 0, 0)
theorem kcX10_openHeld : zCal mX10_openHeld 2 := ⟨zin (zt4 (List.mem_of_getElem? (i := 9) rfl)) rfl, zin (zt1 (List.mem_of_getElem? (i := 13) (by decide +kernel))) rfl, ⟨by decide +kernel, by decide +kernel, by decide +kernel⟩, by decide +kernel⟩
theorem viX10_openHeld : zVir mX10_openHeld 10 := ⟨zin (zt4 (List.mem_of_getElem? (i := 7) (by decide +kernel))) rfl, zin (zt4 (List.mem_of_getElem? (i := 8) (by decide +kernel))) rfl, _, _, rfl⟩
theorem imX10_openHeld : Cond.instanceMethod yX10_openHeld ∈ zTB := zin (zt4 (List.mem_of_getElem? (i := 7) (by decide +kernel))) rfl
abbrev mX10_closeSeen : zM := (yX10_closeSeen, cX10_closeSeen, 7, none, 4, 91, 0, 0)
theorem kcX10_closeSeen : zCal mX10_closeSeen 5 := ⟨zin (zt4 (List.mem_of_getElem? (i := 42) rfl)) rfl, zin (zt1 (List.mem_of_getElem? (i := 13) (by decide +kernel))) rfl, ⟨by decide +kernel, by decide +kernel, by decide +kernel⟩, by decide +kernel⟩
theorem viX10_closeSeen : zVir mX10_closeSeen 10 := ⟨zin (zt4 (List.mem_of_getElem? (i := 40) (by decide +kernel))) rfl, zin (zt4 (List.mem_of_getElem? (i := 41) (by decide +kernel))) rfl, _, _, rfl⟩
theorem imX10_closeSeen : Cond.instanceMethod yX10_closeSeen ∈ zTB := zin (zt4 (List.mem_of_getElem? (i := 40) (by decide +kernel))) rfl
abbrev mX10_length : zM := (yX10_length, cX10_length, 5, some .int, 3, 74, 0, 0)
theorem kcX10_length : zCal mX10_length 4 := ⟨zin (zt4 (List.mem_of_getElem? (i := 22) rfl)) rfl, zin (zt1 (List.mem_of_getElem? (i := 13) (by decide +kernel))) rfl, ⟨by decide +kernel, by decide +kernel, by decide +kernel⟩, by decide +kernel⟩
theorem viX10_length : zVir mX10_length 10 := ⟨zin (zt4 (List.mem_of_getElem? (i := 20) (by decide +kernel))) rfl, zin (zt4 (List.mem_of_getElem? (i := 21) (by decide +kernel))) rfl, _, _, rfl⟩
theorem imX10_length : Cond.instanceMethod yX10_length ∈ zTB := zin (zt4 (List.mem_of_getElem? (i := 20) (by decide +kernel))) rfl
abbrev mX10_farOf : zM := (yX10_farOf, cX10_farOf, 2, some .int, 0, 0, 0, 0)
theorem kcX10_farOf : zCal mX10_farOf 1 := ⟨zin (zt4 (List.mem_of_getElem? (i := 34) rfl)) rfl, zin (zt1 (List.mem_of_getElem? (i := 13) (by decide +kernel))) rfl, ⟨by decide +kernel, by decide +kernel, by decide +kernel⟩, by decide +kernel⟩
theorem viX10_farOf : zVir mX10_farOf 10 := ⟨zin (zt4 (List.mem_of_getElem? (i := 33) (by decide +kernel))) rfl, zin (zt0 (List.mem_of_getElem? (i := 9) (by decide +kernel))) rfl, _, _, rfl⟩
theorem imX10_farOf : Cond.instanceMethod yX10_farOf ∈ zTB := zin (zt4 (List.mem_of_getElem? (i := 33) (by decide +kernel))) rfl
abbrev mX10_walk : zM := (yX10_walk, cX10_walk, 12, none, 2, 43, 0, 0)
theorem kcX10_walk : zCal mX10_walk 4 := ⟨zin (zt4 (List.mem_of_getElem? (i := 26) rfl)) rfl, zin (zt1 (List.mem_of_getElem? (i := 13) (by decide +kernel))) rfl, ⟨by decide +kernel, by decide +kernel, by decide +kernel⟩, by decide +kernel⟩
theorem viX10_walk : zVir mX10_walk 10 := ⟨zin (zt4 (List.mem_of_getElem? (i := 25) (by decide +kernel))) rfl, zin (zt0 (List.mem_of_getElem? (i := 7) (by decide +kernel))) rfl, _, _, rfl⟩
theorem imX10_walk : Cond.instanceMethod yX10_walk ∈ zTB := zin (zt4 (List.mem_of_getElem? (i := 25) (by decide +kernel))) rfl
abbrev mX10_come : zM := (yX10_come, cX10_come, 3, none, 1, 21, 0, 0)
theorem kcX10_come : zCal mX10_come 2 := ⟨zin (zt4 (List.mem_of_getElem? (i := 30) rfl)) rfl, zin (zt1 (List.mem_of_getElem? (i := 13) (by decide +kernel))) rfl, ⟨by decide +kernel, by decide +kernel, by decide +kernel⟩, by decide +kernel⟩
theorem viX10_come : zVir mX10_come 10 := ⟨zin (zt4 (List.mem_of_getElem? (i := 29) (by decide +kernel))) rfl, zin (zt0 (List.mem_of_getElem? (i := 8) (by decide +kernel))) rfl, _, _, rfl⟩
theorem imX10_come : Cond.instanceMethod yX10_come ∈ zTB := zin (zt4 (List.mem_of_getElem? (i := 29) (by decide +kernel))) rfl
abbrev mX11_init : zM := (yX11_init, cX11_init, 2, none, 3, 60, 165, 34536)
theorem kcX11_init : zCal mX11_init 0 := ⟨zin (zt1 (List.mem_of_getElem? (i := 20) rfl)) rfl, zin (zt1 (List.mem_of_getElem? (i := 1) (by decide +kernel))) rfl, ⟨by decide +kernel, by decide +kernel, by decide +kernel⟩, by decide +kernel⟩
theorem imX11_init : Cond.instanceMethod yX11_init ∈ zTB := zin (zt1 (List.mem_of_getElem? (i := 19) (by decide +kernel))) rfl
abbrev mX11_row : zM := (yX11_row, cX11_row, 3, some .int, 1, 23, 0, 0)
theorem kcX11_row : zCal mX11_row 2 := ⟨zin (zt4 (List.mem_of_getElem? (i := 225) rfl)) rfl, zin (zt1 (List.mem_of_getElem? (i := 1) (by decide +kernel))) rfl, ⟨by decide +kernel, by decide +kernel, by decide +kernel⟩, by decide +kernel⟩
theorem viX11_row : zVir mX11_row 11 := ⟨zin (zt4 (List.mem_of_getElem? (i := 223) (by decide +kernel))) rfl, zin (zt4 (List.mem_of_getElem? (i := 224) (by decide +kernel))) rfl, _, _, rfl⟩
theorem imX11_row : Cond.instanceMethod yX11_row ∈ zTB := zin (zt4 (List.mem_of_getElem? (i := 223) (by decide +kernel))) rfl
abbrev mX11_lay : zM := (yX11_lay, cX11_lay, 6, some .int, 2, 43, 0, 0)
theorem kcX11_lay : zCal mX11_lay 3 := ⟨zin (zt4 (List.mem_of_getElem? (i := 229) rfl)) rfl, zin (zt1 (List.mem_of_getElem? (i := 1) (by decide +kernel))) rfl, ⟨by decide +kernel, by decide +kernel, by decide +kernel⟩, by decide +kernel⟩
theorem viX11_lay : zVir mX11_lay 11 := ⟨zin (zt4 (List.mem_of_getElem? (i := 227) (by decide +kernel))) rfl, zin (zt4 (List.mem_of_getElem? (i := 228) (by decide +kernel))) rfl, _, _, rfl⟩
theorem imX11_lay : Cond.instanceMethod yX11_lay ∈ zTB := zin (zt4 (List.mem_of_getElem? (i := 227) (by decide +kernel))) rfl
abbrev mX11_at : zM := (yX11_at, cX11_at, 4, some .int, 2, 42, 0, 0)
theorem kcX11_at : zCal mX11_at 2 := ⟨zin (zt2 (List.mem_of_getElem? (i := 192) rfl)) rfl, zin (zt1 (List.mem_of_getElem? (i := 1) (by decide +kernel))) rfl, ⟨by decide +kernel, by decide +kernel, by decide +kernel⟩, by decide +kernel⟩
theorem viX11_at : zVir mX11_at 11 := ⟨zin (zt2 (List.mem_of_getElem? (i := 190) (by decide +kernel))) rfl, zin (zt2 (List.mem_of_getElem? (i := 191) (by decide +kernel))) rfl, _, _, rfl⟩
theorem imX11_at : Cond.instanceMethod yX11_at ∈ zTB := zin (zt2 (List.mem_of_getElem? (i := 190) (by decide +kernel))) rfl
abbrev mX11_text : zM := (yX11_text, cX11_text, 3, some .int, 1, 23, 0, 0)
theorem kcX11_text : zCal mX11_text 2 := ⟨zin (zt4 (List.mem_of_getElem? (i := 99) rfl)) rfl, zin (zt1 (List.mem_of_getElem? (i := 1) (by decide +kernel))) rfl, ⟨by decide +kernel, by decide +kernel, by decide +kernel⟩, by decide +kernel⟩
theorem viX11_text : zVir mX11_text 11 := ⟨zin (zt4 (List.mem_of_getElem? (i := 97) (by decide +kernel))) rfl, zin (zt4 (List.mem_of_getElem? (i := 98) (by decide +kernel))) rfl, _, _, rfl⟩
theorem imX11_text : Cond.instanceMethod yX11_text ∈ zTB := zin (zt4 (List.mem_of_getElem? (i := 97) (by decide +kernel))) rfl
abbrev mX11_put : zM := (yX11_put, cX11_put, 6, some .int, 2, 43, 0, 0)
theorem kcX11_put : zCal mX11_put 3 := ⟨zin (zt4 (List.mem_of_getElem? (i := 109) rfl)) rfl, zin (zt1 (List.mem_of_getElem? (i := 1) (by decide +kernel))) rfl, ⟨by decide +kernel, by decide +kernel, by decide +kernel⟩, by decide +kernel⟩
theorem viX11_put : zVir mX11_put 11 := ⟨zin (zt4 (List.mem_of_getElem? (i := 107) (by decide +kernel))) rfl, zin (zt4 (List.mem_of_getElem? (i := 108) (by decide +kernel))) rfl, _, _, rfl⟩
theorem imX11_put : Cond.instanceMethod yX11_put ∈ zTB := zin (zt4 (List.mem_of_getElem? (i := 107) (by decide +kernel))) rfl
abbrev mX11_fault : zM := (yX11_fault, cX11_fault, 2, some .int, 7, 149, 0, 0)
theorem kcX11_fault : zCal mX11_fault 1 := ⟨zin (zt4 (List.mem_of_getElem? (i := 116) rfl)) rfl, zin (zt1 (List.mem_of_getElem? (i := 1) (by decide +kernel))) rfl, ⟨by decide +kernel, by decide +kernel, by decide +kernel⟩, by decide +kernel⟩
theorem viX11_fault : zVir mX11_fault 11 := ⟨zin (zt4 (List.mem_of_getElem? (i := 114) (by decide +kernel))) rfl, zin (zt4 (List.mem_of_getElem? (i := 115) (by decide +kernel))) rfl, _, _, rfl⟩
theorem imX11_fault : Cond.instanceMethod yX11_fault ∈ zTB := zin (zt4 (List.mem_of_getElem? (i := 114) (by decide +kernel))) rfl
abbrev mX11_hands : zM := (yX11_hands, cX11_hands, 2, some .int, 7, 149, 0, 0)
theorem kcX11_hands : zCal mX11_hands 1 := ⟨zin (zt4 (List.mem_of_getElem? (i := 165) rfl)) rfl, zin (zt1 (List.mem_of_getElem? (i := 1) (by decide +kernel))) rfl, ⟨by decide +kernel, by decide +kernel, by decide +kernel⟩, by decide +kernel⟩
theorem viX11_hands : zVir mX11_hands 11 := ⟨zin (zt4 (List.mem_of_getElem? (i := 163) (by decide +kernel))) rfl, zin (zt4 (List.mem_of_getElem? (i := 164) (by decide +kernel))) rfl, _, _, rfl⟩
theorem imX11_hands : Cond.instanceMethod yX11_hands ∈ zTB := zin (zt4 (List.mem_of_getElem? (i := 163) (by decide +kernel))) rfl
abbrev mX11_strain : zM := (yX11_strain, cX11_strain, 3, some .int, 0, 0, 0, 0)
theorem kcX11_strain : zCal mX11_strain 1 := ⟨zin (zt2 (List.mem_of_getElem? (i := 220) rfl)) rfl, zin (zt1 (List.mem_of_getElem? (i := 1) (by decide +kernel))) rfl, ⟨by decide +kernel, by decide +kernel, by decide +kernel⟩, by decide +kernel⟩
theorem viX11_strain : zVir mX11_strain 11 := ⟨zin (zt2 (List.mem_of_getElem? (i := 218) (by decide +kernel))) rfl, zin (zt2 (List.mem_of_getElem? (i := 219) (by decide +kernel))) rfl, _, _, rfl⟩
theorem imX11_strain : Cond.instanceMethod yX11_strain ∈ zTB := zin (zt2 (List.mem_of_getElem? (i := 218) (by decide +kernel))) rfl
abbrev mX11_pose : zM := (yX11_pose, cX11_pose, 5, some .int, 5, 124, 0, 0)
theorem kcX11_pose : zCal mX11_pose 2 := ⟨zin (zt2 (List.mem_of_getElem? (i := 224) rfl)) rfl, zin (zt1 (List.mem_of_getElem? (i := 1) (by decide +kernel))) rfl, ⟨by decide +kernel, by decide +kernel, by decide +kernel⟩, by decide +kernel⟩
theorem viX11_pose : zVir mX11_pose 11 := ⟨zin (zt2 (List.mem_of_getElem? (i := 222) (by decide +kernel))) rfl, zin (zt2 (List.mem_of_getElem? (i := 223) (by decide +kernel))) rfl, _, _, rfl⟩
theorem imX11_pose : Cond.instanceMethod yX11_pose ∈ zTB := zin (zt2 (List.mem_of_getElem? (i := 222) (by decide +kernel))) rfl
abbrev mX11_about : zM := (yX11_about, cX11_about, 3, some .int, 1, 21, 0, 0)
theorem kcX11_about : zCal mX11_about 2 := ⟨zin (zt3 (List.mem_of_getElem? (i := 46) rfl)) rfl, zin (zt1 (List.mem_of_getElem? (i := 1) (by decide +kernel))) rfl, ⟨by decide +kernel, by decide +kernel, by decide +kernel⟩, by decide +kernel⟩
theorem viX11_about : zVir mX11_about 11 := ⟨zin (zt3 (List.mem_of_getElem? (i := 44) (by decide +kernel))) rfl, zin (zt3 (List.mem_of_getElem? (i := 45) (by decide +kernel))) rfl, _, _, rfl⟩
theorem imX11_about : Cond.instanceMethod yX11_about ∈ zTB := zin (zt3 (List.mem_of_getElem? (i := 44) (by decide +kernel))) rfl
abbrev mX11_shape : zM := (yX11_shape, cX11_shape, 3, some .int, 3, 65, 0, 0)
theorem kcX11_shape : zCal mX11_shape 2 := ⟨zin (zt3 (List.mem_of_getElem? (i := 54) rfl)) rfl, zin (zt1 (List.mem_of_getElem? (i := 1) (by decide +kernel))) rfl, ⟨by decide +kernel, by decide +kernel, by decide +kernel⟩, by decide +kernel⟩
theorem viX11_shape : zVir mX11_shape 11 := ⟨zin (zt3 (List.mem_of_getElem? (i := 52) (by decide +kernel))) rfl, zin (zt3 (List.mem_of_getElem? (i := 53) (by decide +kernel))) rfl, _, _, rfl⟩
theorem imX11_shape : Cond.instanceMethod yX11_shape ∈ zTB := zin (zt3 (List.mem_of_getElem? (i := 52) (by decide +kernel))) rfl
abbrev mX11_thrown : zM := (yX11_thrown, cX11_thrown, 3, some .int, 5, 122, 0, 0)
theorem kcX11_thrown : zCal mX11_thrown 2 := ⟨zin (zt3 (List.mem_of_getElem? (i := 84) rfl)) rfl, zin (zt1 (List.mem_of_getElem? (i := 1) (by decide +kernel))) rfl, ⟨by decide +kernel, by decide +kernel, by decide +kernel⟩, by decide +kernel⟩
theorem viX11_thrown : zVir mX11_thrown 11 := ⟨zin (zt3 (List.mem_of_getElem? (i := 82) (by decide +kernel))) rfl, zin (zt3 (List.mem_of_getElem? (i := 83) (by decide +kernel))) rfl, _, _, rfl⟩
theorem imX11_thrown : Cond.instanceMethod yX11_thrown ∈ zTB := zin (zt3 (List.mem_of_getElem? (i := 82) (by decide +kernel))) rfl
abbrev mX11_beast : zM := (yX11_beast, cX11_beast, 6, some .int, 4, 84, 0, 0)
theorem kcX11_beast : zCal mX11_beast 4 := ⟨zin (zt3 (List.mem_of_getElem? (i := 117) rfl)) rfl, zin (zt1 (List.mem_of_getElem? (i := 1) (by decide +kernel))) rfl, ⟨by decide +kernel, by decide +kernel, by decide +kernel⟩, by decide +kernel⟩
theorem viX11_beast : zVir mX11_beast 11 := ⟨zin (zt3 (List.mem_of_getElem? (i := 115) (by decide +kernel))) rfl, zin (zt3 (List.mem_of_getElem? (i := 116) (by decide +kernel))) rfl, _, _, rfl⟩
theorem imX11_beast : Cond.instanceMethod yX11_beast ∈ zTB := zin (zt3 (List.mem_of_getElem? (i := 115) (by decide +kernel))) rfl
abbrev mX11_off : zM := (yX11_off, cX11_off, 3, some .int, 5, 122, 0, 0)
theorem kcX11_off : zCal mX11_off 2 := ⟨zin (zt3 (List.mem_of_getElem? (i := 138) rfl)) rfl, zin (zt1 (List.mem_of_getElem? (i := 1) (by decide +kernel))) rfl, ⟨by decide +kernel, by decide +kernel, by decide +kernel⟩, by decide +kernel⟩
theorem viX11_off : zVir mX11_off 11 := ⟨zin (zt3 (List.mem_of_getElem? (i := 136) (by decide +kernel))) rfl, zin (zt3 (List.mem_of_getElem? (i := 137) (by decide +kernel))) rfl, _, _, rfl⟩
theorem imX11_off : Cond.instanceMethod yX11_off ∈ zTB := zin (zt3 (List.mem_of_getElem? (i := 136) (by decide +kernel))) rfl
abbrev mX11_many : zM := (yX11_many, cX11_many, 4, some .int, 2, 43, 0, 0)
theorem kcX11_many : zCal mX11_many 0 := ⟨zin (zt3 (List.mem_of_getElem? (i := 157) rfl)) rfl, zin (zt1 (List.mem_of_getElem? (i := 1) (by decide +kernel))) rfl, ⟨by decide +kernel, by decide +kernel, by decide +kernel⟩, by decide +kernel⟩
theorem viX11_many : zVir mX11_many 11 := ⟨zin (zt3 (List.mem_of_getElem? (i := 155) (by decide +kernel))) rfl, zin (zt3 (List.mem_of_getElem? (i := 156) (by decide +kernel))) rfl, _, _, rfl⟩
theorem imX11_many : Cond.instanceMethod yX11_many ∈ zTB := zin (zt3 (List.mem_of_getElem? (i := 155) (by decide +kernel))) rfl
abbrev mX11_nearest : zM := (yX11_nearest, cX11_nearest, 5, some .int, 5, 126, 0, 0)
theorem kcX11_nearest : zCal mX11_nearest 2 := ⟨zin (zt3 (List.mem_of_getElem? (i := 170) rfl)) rfl, zin (zt1 (List.mem_of_getElem? (i := 1) (by decide +kernel))) rfl, ⟨by decide +kernel, by decide +kernel, by decide +kernel⟩, by decide +kernel⟩
theorem viX11_nearest : zVir mX11_nearest 11 := ⟨zin (zt3 (List.mem_of_getElem? (i := 168) (by decide +kernel))) rfl, zin (zt3 (List.mem_of_getElem? (i := 169) (by decide +kernel))) rfl, _, _, rfl⟩
theorem imX11_nearest : Cond.instanceMethod yX11_nearest ∈ zTB := zin (zt3 (List.mem_of_getElem? (i := 168) (by decide +kernel))) rfl
abbrev mX11_never : zM := (yX11_never, cX11_never, 3, some .int, 4, 100, 0, 0)
theorem kcX11_never : zCal mX11_never 2 := ⟨zin (zt3 (List.mem_of_getElem? (i := 201) rfl)) rfl, zin (zt1 (List.mem_of_getElem? (i := 1) (by decide +kernel))) rfl, ⟨by decide +kernel, by decide +kernel, by decide +kernel⟩, by decide +kernel⟩
theorem viX11_never : zVir mX11_never 11 := ⟨zin (zt3 (List.mem_of_getElem? (i := 199) (by decide +kernel))) rfl, zin (zt3 (List.mem_of_getElem? (i := 200) (by decide +kernel))) rfl, _, _, rfl⟩
theorem imX11_never : Cond.instanceMethod yX11_never ∈ zTB := zin (zt3 (List.mem_of_getElem? (i := 199) (by decide +kernel))) rfl
abbrev mX11_sets : zM := (yX11_sets, cX11_sets, 3, some .int, 5, 126, 0, 0)
theorem kcX11_sets : zCal mX11_sets 1 := ⟨zin (zt3 (List.mem_of_getElem? (i := 221) rfl)) rfl, zin (zt1 (List.mem_of_getElem? (i := 1) (by decide +kernel))) rfl, ⟨by decide +kernel, by decide +kernel, by decide +kernel⟩, by decide +kernel⟩
theorem viX11_sets : zVir mX11_sets 11 := ⟨zin (zt3 (List.mem_of_getElem? (i := 219) (by decide +kernel))) rfl, zin (zt3 (List.mem_of_getElem? (i := 220) (by decide +kernel))) rfl, _, _, rfl⟩
theorem imX11_sets : Cond.instanceMethod yX11_sets ∈ zTB := zin (zt3 (List.mem_of_getElem? (i := 219) (by decide +kernel))) rfl
abbrev mX11_way : zM := (yX11_way, cX11_way, 3, some .int, 4, 98, 0, 0)
theorem kcX11_way : zCal mX11_way 2 := ⟨zin (zt4 (List.mem_of_getElem? (i := 1) rfl)) rfl, zin (zt1 (List.mem_of_getElem? (i := 1) (by decide +kernel))) rfl, ⟨by decide +kernel, by decide +kernel, by decide +kernel⟩, by decide +kernel⟩
theorem viX11_way : zVir mX11_way 11 := ⟨zin (zt3 (List.mem_of_getElem? (i := 239) (by decide +kernel))) rfl, zin (zt4 (List.mem_of_getElem? (i := 0) (by decide +kernel))) rfl, _, _, rfl⟩
theorem imX11_way : Cond.instanceMethod yX11_way ∈ zTB := zin (zt3 (List.mem_of_getElem? (i := 239) (by decide +kernel))) rfl
abbrev mX11_unseen : zM := (yX11_unseen, cX11_unseen, 5, some .int, 5, 126, 0, 0)
theorem kcX11_unseen : zCal mX11_unseen 4 := ⟨zin (zt4 (List.mem_of_getElem? (i := 38) rfl)) rfl, zin (zt1 (List.mem_of_getElem? (i := 1) (by decide +kernel))) rfl, ⟨by decide +kernel, by decide +kernel, by decide +kernel⟩, by decide +kernel⟩
theorem viX11_unseen : zVir mX11_unseen 11 := ⟨zin (zt4 (List.mem_of_getElem? (i := 36) (by decide +kernel))) rfl, zin (zt4 (List.mem_of_getElem? (i := 37) (by decide +kernel))) rfl, _, _, rfl⟩
theorem imX11_unseen : Cond.instanceMethod yX11_unseen ∈ zTB := zin (zt4 (List.mem_of_getElem? (i := 36) (by decide +kernel))) rfl
abbrev mX11_where : zM := (yX11_where, cX11_where, 7, some .int, 5, 122, 0, 0)
theorem kcX11_where : zCal mX11_where 2 := ⟨zin (zt4 (List.mem_of_getElem? (i := 47) rfl)) rfl, zin (zt1 (List.mem_of_getElem? (i := 1) (by decide +kernel))) rfl, ⟨by decide +kernel, by decide +kernel, by decide +kernel⟩, by decide +kernel⟩
theorem viX11_where : zVir mX11_where 11 := ⟨zin (zt4 (List.mem_of_getElem? (i := 45) (by decide +kernel))) rfl, zin (zt4 (List.mem_of_getElem? (i := 46) (by decide +kernel))) rfl, _, _, rfl⟩
theorem imX11_where : Cond.instanceMethod yX11_where ∈ zTB := zin (zt4 (List.mem_of_getElem? (i := 45) (by decide +kernel))) rfl
abbrev mX11_picture : zM := (yX11_picture, cX11_picture, 5, some .int, 6, 147, 0, 0)
theorem kcX11_picture : zCal mX11_picture 1 := ⟨zin (zt4 (List.mem_of_getElem? (i := 63) rfl)) rfl, zin (zt1 (List.mem_of_getElem? (i := 1) (by decide +kernel))) rfl, ⟨by decide +kernel, by decide +kernel, by decide +kernel⟩, by decide +kernel⟩
theorem viX11_picture : zVir mX11_picture 11 := ⟨zin (zt4 (List.mem_of_getElem? (i := 61) (by decide +kernel))) rfl, zin (zt4 (List.mem_of_getElem? (i := 62) (by decide +kernel))) rfl, _, _, rfl⟩
theorem imX11_picture : Cond.instanceMethod yX11_picture ∈ zTB := zin (zt4 (List.mem_of_getElem? (i := 61) (by decide +kernel))) rfl
abbrev mX11_stiff : zM := (yX11_stiff, cX11_stiff, 4, some .int, 6, 143, 0, 0)
theorem kcX11_stiff : zCal mX11_stiff 2 := ⟨zin (zt4 (List.mem_of_getElem? (i := 76) rfl)) rfl, zin (zt1 (List.mem_of_getElem? (i := 1) (by decide +kernel))) rfl, ⟨by decide +kernel, by decide +kernel, by decide +kernel⟩, by decide +kernel⟩
theorem viX11_stiff : zVir mX11_stiff 11 := ⟨zin (zt4 (List.mem_of_getElem? (i := 74) (by decide +kernel))) rfl, zin (zt4 (List.mem_of_getElem? (i := 75) (by decide +kernel))) rfl, _, _, rfl⟩
theorem imX11_stiff : Cond.instanceMethod yX11_stiff ∈ zTB := zin (zt4 (List.mem_of_getElem? (i := 74) (by decide +kernel))) rfl
abbrev mX11_asked : zM := (yX11_asked, cX11_asked, 1, some .int, 0, 0, 0, 0)
theorem kcX11_asked : zCal mX11_asked 0 := ⟨zin (zt4 (List.mem_of_getElem? (i := 85) rfl)) rfl, zin (zt1 (List.mem_of_getElem? (i := 1) (by decide +kernel))) rfl, ⟨by decide +kernel, by decide +kernel, by decide +kernel⟩, by decide +kernel⟩
theorem viX11_asked : zVir mX11_asked 11 := ⟨zin (zt4 (List.mem_of_getElem? (i := 83) (by decide +kernel))) rfl, zin (zt4 (List.mem_of_getElem? (i := 84) (by decide +kernel))) rfl, _, _, rfl⟩
theorem imX11_asked : Cond.instanceMethod yX11_asked ∈ zTB := zin (zt4 (List.mem_of_getElem? (i := 83) (by decide +kernel))) rfl
abbrev mX11_isRow : zM := (yX11_isRow, cX11_isRow, 1, some .boolean, 0, 0, 0, 0)
theorem kcX11_isRow : zCal mX11_isRow 1 := ⟨zin (zt2 (List.mem_of_getElem? (i := 195) rfl)) rfl, zin (zt1 (List.mem_of_getElem? (i := 1) (by decide +kernel))) rfl, ⟨by decide +kernel, by decide +kernel, by decide +kernel⟩, by decide +kernel⟩
theorem smX11_isRow : Cond.static yX11_isRow ∈ zTB := zin (zt2 (List.mem_of_getElem? (i := 194) (by decide +kernel))) rfl
abbrev mX11_isText : zM := (yX11_isText, cX11_isText, 1, some .boolean, 0, 0, 0, 0)
theorem kcX11_isText : zCal mX11_isText 1 := ⟨zin (zt4 (List.mem_of_getElem? (i := 102) rfl)) rfl, zin (zt1 (List.mem_of_getElem? (i := 1) (by decide +kernel))) rfl, ⟨by decide +kernel, by decide +kernel, by decide +kernel⟩, by decide +kernel⟩
theorem smX11_isText : Cond.static yX11_isText ∈ zTB := zin (zt4 (List.mem_of_getElem? (i := 101) (by decide +kernel))) rfl
abbrev mX11_isBeast : zM := (yX11_isBeast, cX11_isBeast, 1, some .boolean, 0, 0, 0, 0)
theorem kcX11_isBeast : zCal mX11_isBeast 1 := ⟨zin (zt3 (List.mem_of_getElem? (i := 120) rfl)) rfl, zin (zt1 (List.mem_of_getElem? (i := 1) (by decide +kernel))) rfl, ⟨by decide +kernel, by decide +kernel, by decide +kernel⟩, by decide +kernel⟩
theorem smX11_isBeast : Cond.static yX11_isBeast ∈ zTB := zin (zt3 (List.mem_of_getElem? (i := 119) (by decide +kernel))) rfl
abbrev mX11_isJoint : zM := (yX11_isJoint, cX11_isJoint, 2, some .boolean, 0, 0, 0, 0)
theorem kcX11_isJoint : zCal mX11_isJoint 1 := ⟨zin (zt2 (List.mem_of_getElem? (i := 228) rfl)) rfl, zin (zt1 (List.mem_of_getElem? (i := 1) (by decide +kernel))) rfl, ⟨by decide +kernel, by decide +kernel, by decide +kernel⟩, by decide +kernel⟩
theorem viX11_isJoint : zVir mX11_isJoint 11 := ⟨zin (zt2 (List.mem_of_getElem? (i := 227) (by decide +kernel))) rfl, zin (zt0 (List.mem_of_getElem? (i := 0) (by decide +kernel))) rfl, _, _, rfl⟩
theorem imX11_isJoint : Cond.instanceMethod yX11_isJoint ∈ zTB := zin (zt2 (List.mem_of_getElem? (i := 227) (by decide +kernel))) rfl
abbrev mX11_isPose : zM := (yX11_isPose, cX11_isPose, 2, some .boolean, 0, 0, 0, 0)
theorem kcX11_isPose : zCal mX11_isPose 1 := ⟨zin (zt3 (List.mem_of_getElem? (i := 50) rfl)) rfl, zin (zt1 (List.mem_of_getElem? (i := 1) (by decide +kernel))) rfl, ⟨by decide +kernel, by decide +kernel, by decide +kernel⟩, by decide +kernel⟩
theorem viX11_isPose : zVir mX11_isPose 11 := ⟨zin (zt3 (List.mem_of_getElem? (i := 49) (by decide +kernel))) rfl, zin (zt0 (List.mem_of_getElem? (i := 2) (by decide +kernel))) rfl, _, _, rfl⟩
theorem imX11_isPose : Cond.instanceMethod yX11_isPose ∈ zTB := zin (zt3 (List.mem_of_getElem? (i := 49) (by decide +kernel))) rfl
abbrev mX11_shadowFinding : zM := (yX11_shadowFinding, cX11_shadowFinding, 2, some .int, 3, 63, 0, 0)
theorem kcX11_shadowFinding : zCal mX11_shadowFinding 2 := ⟨zin (zt3 (List.mem_of_getElem? (i := 123) rfl)) rfl, zin (zt1 (List.mem_of_getElem? (i := 1) (by decide +kernel))) rfl, ⟨by decide +kernel, by decide +kernel, by decide +kernel⟩, by decide +kernel⟩
theorem smX11_shadowFinding : Cond.static yX11_shadowFinding ∈ zTB := zin (zt3 (List.mem_of_getElem? (i := 122) (by decide +kernel))) rfl
abbrev mX11_dropPoses : zM := (yX11_dropPoses, cX11_dropPoses, 2, none, 2, 47, 0, 0)
theorem kcX11_dropPoses : zCal mX11_dropPoses 1 := ⟨zin (zt4 (List.mem_of_getElem? (i := 169) rfl)) rfl, zin (zt1 (List.mem_of_getElem? (i := 1) (by decide +kernel))) rfl, ⟨by decide +kernel, by decide +kernel, by decide +kernel⟩, by decide +kernel⟩
theorem viX11_dropPoses : zVir mX11_dropPoses 11 := ⟨zin (zt4 (List.mem_of_getElem? (i := 168) (by decide +kernel))) rfl, zin (zt0 (List.mem_of_getElem? (i := 16) (by decide +kernel))) rfl, _, _, rfl⟩
theorem imX11_dropPoses : Cond.instanceMethod yX11_dropPoses ∈ zTB := zin (zt4 (List.mem_of_getElem? (i := 168) (by decide +kernel))) rfl
abbrev mX11_placeOf : zM := (yX11_placeOf, cX11_placeOf, 2, some .int, 1, 24, 0, 0)
theorem kcX11_placeOf : zCal mX11_placeOf 1 := ⟨zin (zt4 (List.mem_of_getElem? (i := 14) rfl)) rfl, zin (zt1 (List.mem_of_getElem? (i := 1) (by decide +kernel))) rfl, ⟨by decide +kernel, by decide +kernel, by decide +kernel⟩, by decide +kernel⟩
theorem viX11_placeOf : zVir mX11_placeOf 11 := ⟨zin (zt4 (List.mem_of_getElem? (i := 13) (by decide +kernel))) rfl, zin (zt0 (List.mem_of_getElem? (i := 6) (by decide +kernel))) rfl, _, _, rfl⟩
theorem imX11_placeOf : Cond.instanceMethod yX11_placeOf ∈ zTB := zin (zt4 (List.mem_of_getElem? (i := 13) (by decide +kernel))) rfl
abbrev mX11_numberThrowingBy : zM := (yX11_numberThrowingBy, cX11_numberThrowingBy, 2, some .int, 5, 126, 0, 0)
theorem kcX11_numberThrowingBy : zCal mX11_numberThrowingBy 1 := ⟨zin (zt4 (List.mem_of_getElem? (i := 67) rfl)) rfl, zin (zt1 (List.mem_of_getElem? (i := 1) (by decide +kernel))) rfl, ⟨by decide +kernel, by decide +kernel, by decide +kernel⟩, by decide +kernel⟩
theorem viX11_numberThrowingBy : zVir mX11_numberThrowingBy 11 := ⟨zin (zt4 (List.mem_of_getElem? (i := 66) (by decide +kernel))) rfl, zin (zt0 (List.mem_of_getElem? (i := 10) (by decide +kernel))) rfl, _, _, rfl⟩
theorem imX11_numberThrowingBy : Cond.instanceMethod yX11_numberThrowingBy ∈ zTB := zin (zt4 (List.mem_of_getElem? (i := 66) (by decide +kernel))) rfl
abbrev mJ6_numberOfTrailingZeros_0f7a4 : zM := (yJ6_numberOfTrailingZeros_0f7a4, cJ6_numberOfTrailingZeros_0f7a4, 2, some .int, 0, 0, 0, 0)
theorem kcJ6_numberOfTrailingZeros_0f7a4 : zCal mJ6_numberOfTrailingZeros_0f7a4 1 := ⟨zin (zt3 (List.mem_of_getElem? (i := 103) rfl)) rfl, zin (zt1 (List.mem_of_getElem? (i := 15) (by decide +kernel))) rfl, ⟨by decide +kernel, by decide +kernel, by decide +kernel⟩, by decide +kernel⟩
theorem smJ6_numberOfTrailingZeros_0f7a4 : Cond.static yJ6_numberOfTrailingZeros_0f7a4 ∈ zTB := zin (zt3 (List.mem_of_getElem? (i := 102) (by decide +kernel))) rfl
abbrev mJ13_numberOfTrailingZeros_95d88 : zM := (yJ13_numberOfTrailingZeros_95d88, cJ13_numberOfTrailingZeros_95d88, 3, some .int, 1, 21, 0, 0)
theorem kcJ13_numberOfTrailingZeros_95d88 : zCal mJ13_numberOfTrailingZeros_95d88 1 := ⟨zin (zt3 (List.mem_of_getElem? (i := 100) rfl)) rfl, zin (zt1 (List.mem_of_getElem? (i := 14) (by decide +kernel))) rfl, ⟨by decide +kernel, by decide +kernel, by decide +kernel⟩, by decide +kernel⟩
theorem smJ13_numberOfTrailingZeros_95d88 : Cond.static yJ13_numberOfTrailingZeros_95d88 ∈ zTB := zin (zt3 (List.mem_of_getElem? (i := 99) (by decide +kernel))) rfl
abbrev mJ13_bitCount_95d88 : zM := (yJ13_bitCount_95d88, cJ13_bitCount_95d88, 2, some .int, 0, 0, 0, 0)
theorem kcJ13_bitCount_95d88 : zCal mJ13_bitCount_95d88 1 := ⟨zin (zt3 (List.mem_of_getElem? (i := 77) rfl)) rfl, zin (zt1 (List.mem_of_getElem? (i := 14) (by decide +kernel))) rfl, ⟨by decide +kernel, by decide +kernel, by decide +kernel⟩, by decide +kernel⟩
theorem smJ13_bitCount_95d88 : Cond.static yJ13_bitCount_95d88 ∈ zTB := zin (zt3 (List.mem_of_getElem? (i := 76) (by decide +kernel))) rfl
abbrev mJ9_abs_0f7a4 : zM := (yJ9_abs_0f7a4, cJ9_abs_0f7a4, 1, some .int, 0, 0, 0, 0)
abbrev mJ9_max_7cf53 : zM := (yJ9_max_7cf53, cJ9_max_7cf53, 2, some .int, 0, 0, 0, 0)
abbrev mJ9_min_7cf53 : zM := (yJ9_min_7cf53, cJ9_min_7cf53, 2, some .int, 0, 0, 0, 0)
abbrev mL_cell : zM := (yL_cell, cL_cell, 2, some .int, 0, 0, 0, 0)
theorem kcL_cell : zCal mL_cell 2 := ⟨zin (zt4 (List.mem_of_getElem? (i := 88) rfl)) rfl, zin (zt1 (List.mem_of_getElem? (i := 0) (by decide +kernel))) rfl, ⟨by decide +kernel, by decide +kernel, by decide +kernel⟩, by decide +kernel⟩
theorem smL_cell : Cond.static yL_cell ∈ zTB := zin (zt4 (List.mem_of_getElem? (i := 87) (by decide +kernel))) rfl
abbrev mL_put : zM := (yL_put, cL_put, 3, some .int, 3, 68, 0, 0)
theorem kcL_put : zCal mL_put 3 := ⟨zin (zt4 (List.mem_of_getElem? (i := 105) rfl)) rfl, zin (zt1 (List.mem_of_getElem? (i := 0) (by decide +kernel))) rfl, ⟨by decide +kernel, by decide +kernel, by decide +kernel⟩, by decide +kernel⟩
theorem smL_put : Cond.static yL_put ∈ zTB := zin (zt4 (List.mem_of_getElem? (i := 104) (by decide +kernel))) rfl
abbrev mL_number : zM := (yL_number, cL_number, 4, some .int, 4, 90, 0, 0)
theorem kcL_number : zCal mL_number 3 := ⟨zin (zt4 (List.mem_of_getElem? (i := 112) rfl)) rfl, zin (zt1 (List.mem_of_getElem? (i := 0) (by decide +kernel))) rfl, ⟨by decide +kernel, by decide +kernel, by decide +kernel⟩, by decide +kernel⟩
theorem smL_number : Cond.static yL_number ∈ zTB := zin (zt4 (List.mem_of_getElem? (i := 111) (by decide +kernel))) rfl
abbrev mL_numbers : zM := (yL_numbers, cL_numbers, 12, none, 1, 21, 0, 0)
theorem kcL_numbers : zCal mL_numbers 4 := ⟨zin (zt4 (List.mem_of_getElem? (i := 92) rfl)) rfl, zin (zt1 (List.mem_of_getElem? (i := 0) (by decide +kernel))) rfl, ⟨by decide +kernel, by decide +kernel, by decide +kernel⟩, by decide +kernel⟩
theorem smL_numbers : Cond.static yL_numbers ∈ zTB := zin (zt4 (List.mem_of_getElem? (i := 91) (by decide +kernel))) rfl
abbrev mL_hands : zM := (yL_hands, cL_hands, 6, some .boolean, 8, 170, 0, 0)
theorem kcL_hands : zCal mL_hands 2 := ⟨zin (zt4 (List.mem_of_getElem? (i := 95) rfl)) rfl, zin (zt1 (List.mem_of_getElem? (i := 0) (by decide +kernel))) rfl, ⟨by decide +kernel, by decide +kernel, by decide +kernel⟩, by decide +kernel⟩
theorem smL_hands : Cond.static yL_hands ∈ zTB := zin (zt4 (List.mem_of_getElem? (i := 94) (by decide +kernel))) rfl
abbrev mL_all : zM := (yL_all, cL_all, 3, some .int, 0, 0, 0, 0)
theorem kcL_all : zCal mL_all 1 := ⟨zin (zt4 (List.mem_of_getElem? (i := 215) rfl)) rfl, zin (zt1 (List.mem_of_getElem? (i := 0) (by decide +kernel))) rfl, ⟨by decide +kernel, by decide +kernel, by decide +kernel⟩, by decide +kernel⟩
theorem smL_all : Cond.static yL_all ∈ zTB := zin (zt4 (List.mem_of_getElem? (i := 214) (by decide +kernel))) rfl
abbrev mL_turns : zM := (yL_turns, cL_turns, 6, none, 0, 0, 0, 0)
theorem kcL_turns : zCal mL_turns 3 := ⟨zin (zt4 (List.mem_of_getElem? (i := 218) rfl)) rfl, zin (zt1 (List.mem_of_getElem? (i := 0) (by decide +kernel))) rfl, ⟨by decide +kernel, by decide +kernel, by decide +kernel⟩, by decide +kernel⟩
theorem smL_turns : Cond.static yL_turns ∈ zTB := zin (zt4 (List.mem_of_getElem? (i := 217) (by decide +kernel))) rfl
abbrev mL_lay : zM := (yL_lay, cL_lay, 6, some .boolean, 3, 68, 0, 0)
theorem kcL_lay : zCal mL_lay 4 := ⟨zin (zt4 (List.mem_of_getElem? (i := 221) rfl)) rfl, zin (zt1 (List.mem_of_getElem? (i := 0) (by decide +kernel))) rfl, ⟨by decide +kernel, by decide +kernel, by decide +kernel⟩, by decide +kernel⟩
theorem smL_lay : Cond.static yL_lay ∈ zTB := zin (zt4 (List.mem_of_getElem? (i := 220) (by decide +kernel))) rfl
abbrev mL_tells : zM := (yL_tells, cL_tells, 2, some .int, 1, 20, 0, 0)
theorem kcL_tells : zCal mL_tells 2 := ⟨zin (zt4 (List.mem_of_getElem? (i := 232) rfl)) rfl, zin (zt1 (List.mem_of_getElem? (i := 0) (by decide +kernel))) rfl, ⟨by decide +kernel, by decide +kernel, by decide +kernel⟩, by decide +kernel⟩
theorem smL_tells : Cond.static yL_tells ∈ zTB := zin (zt4 (List.mem_of_getElem? (i := 231) (by decide +kernel))) rfl
abbrev mL_glass : zM := (yL_glass, cL_glass, 3, some .int, 0, 0, 0, 0)
theorem kcL_glass : zCal mL_glass 1 := ⟨zin (zt4 (List.mem_of_getElem? (i := 235) rfl)) rfl, zin (zt1 (List.mem_of_getElem? (i := 0) (by decide +kernel))) rfl, ⟨by decide +kernel, by decide +kernel, by decide +kernel⟩, by decide +kernel⟩
theorem smL_glass : Cond.static yL_glass ∈ zTB := zin (zt4 (List.mem_of_getElem? (i := 234) (by decide +kernel))) rfl
theorem mlJ13_311 : Cond.methodLink RJ13 311 yJ6_numberOfTrailingZeros_0f7a4 ∈ zTB := zin (zt3 (List.mem_of_getElem? (i := 101) (by decide +kernel))) rfl
theorem mlL_8 : Cond.methodLink RL 8 yX11_put ∈ zTB := zin (zt4 (List.mem_of_getElem? (i := 106) (by decide +kernel))) rfl
theorem mlL_14 : Cond.methodLink RL 14 yL_put ∈ zTB := zin (zt4 (List.mem_of_getElem? (i := 103) (by decide +kernel))) rfl
theorem mlL_19 : Cond.methodLink RL 19 yL_cell ∈ zTB := zin (zt4 (List.mem_of_getElem? (i := 86) (by decide +kernel))) rfl
theorem mlL_23 : Cond.methodLink RL 23 yX11_text ∈ zTB := zin (zt4 (List.mem_of_getElem? (i := 96) (by decide +kernel))) rfl
theorem mlL_27 : Cond.methodLink RL 27 yL_number ∈ zTB := zin (zt4 (List.mem_of_getElem? (i := 110) (by decide +kernel))) rfl
theorem mlL_30 : Cond.methodLink RL 30 yX11_fault ∈ zTB := zin (zt4 (List.mem_of_getElem? (i := 113) (by decide +kernel))) rfl
theorem mlL_34 : Cond.methodLink RL 34 yX11_hands ∈ zTB := zin (zt4 (List.mem_of_getElem? (i := 162) (by decide +kernel))) rfl
theorem mlL_47 : Cond.methodLink RL 47 yX11_row ∈ zTB := zin (zt4 (List.mem_of_getElem? (i := 222) (by decide +kernel))) rfl
theorem mlL_50 : Cond.methodLink RL 50 yX11_lay ∈ zTB := zin (zt4 (List.mem_of_getElem? (i := 226) (by decide +kernel))) rfl
theorem mlL_53 : Cond.methodLink RL 53 yX11_at ∈ zTB := zin (zt2 (List.mem_of_getElem? (i := 189) (by decide +kernel))) rfl
theorem mlL_56 : Cond.methodLink RL 56 yX11_asked ∈ zTB := zin (zt4 (List.mem_of_getElem? (i := 82) (by decide +kernel))) rfl
theorem mlL_63 : Cond.methodLink RL 63 yX11_init ∈ zTB := zin (zt1 (List.mem_of_getElem? (i := 18) (by decide +kernel))) rfl
theorem mlL_64 : Cond.methodLink RL 64 yL_numbers ∈ zTB := zin (zt4 (List.mem_of_getElem? (i := 90) (by decide +kernel))) rfl
theorem mlL_68 : Cond.methodLink RL 68 yL_hands ∈ zTB := zin (zt4 (List.mem_of_getElem? (i := 93) (by decide +kernel))) rfl
theorem mlL_71 : Cond.methodLink RL 71 yL_glass ∈ zTB := zin (zt4 (List.mem_of_getElem? (i := 233) (by decide +kernel))) rfl
theorem mlL_74 : Cond.methodLink RL 74 yL_lay ∈ zTB := zin (zt4 (List.mem_of_getElem? (i := 219) (by decide +kernel))) rfl
theorem mlL_77 : Cond.methodLink RL 77 yX11_beast ∈ zTB := zin (zt3 (List.mem_of_getElem? (i := 114) (by decide +kernel))) rfl
theorem mlL_81 : Cond.methodLink RL 81 yX11_strain ∈ zTB := zin (zt2 (List.mem_of_getElem? (i := 217) (by decide +kernel))) rfl
theorem mlL_84 : Cond.methodLink RL 84 yX11_many ∈ zTB := zin (zt3 (List.mem_of_getElem? (i := 154) (by decide +kernel))) rfl
theorem mlL_87 : Cond.methodLink RL 87 yX11_nearest ∈ zTB := zin (zt3 (List.mem_of_getElem? (i := 167) (by decide +kernel))) rfl
theorem mlL_90 : Cond.methodLink RL 90 yX11_never ∈ zTB := zin (zt3 (List.mem_of_getElem? (i := 198) (by decide +kernel))) rfl
theorem mlL_93 : Cond.methodLink RL 93 yX11_stiff ∈ zTB := zin (zt4 (List.mem_of_getElem? (i := 73) (by decide +kernel))) rfl
theorem mlL_96 : Cond.methodLink RL 96 yL_all ∈ zTB := zin (zt4 (List.mem_of_getElem? (i := 213) (by decide +kernel))) rfl
theorem mlL_100 : Cond.methodLink RL 100 yL_turns ∈ zTB := zin (zt4 (List.mem_of_getElem? (i := 216) (by decide +kernel))) rfl
theorem mlL_104 : Cond.methodLink RL 104 yX11_pose ∈ zTB := zin (zt2 (List.mem_of_getElem? (i := 221) (by decide +kernel))) rfl
theorem mlL_107 : Cond.methodLink RL 107 yX11_about ∈ zTB := zin (zt3 (List.mem_of_getElem? (i := 43) (by decide +kernel))) rfl
theorem mlL_110 : Cond.methodLink RL 110 yL_tells ∈ zTB := zin (zt4 (List.mem_of_getElem? (i := 230) (by decide +kernel))) rfl
theorem mlL_114 : Cond.methodLink RL 114 yX11_shape ∈ zTB := zin (zt3 (List.mem_of_getElem? (i := 51) (by decide +kernel))) rfl
theorem mlL_117 : Cond.methodLink RL 117 yX11_off ∈ zTB := zin (zt3 (List.mem_of_getElem? (i := 135) (by decide +kernel))) rfl
theorem mlL_120 : Cond.methodLink RL 120 yX11_thrown ∈ zTB := zin (zt3 (List.mem_of_getElem? (i := 81) (by decide +kernel))) rfl
theorem mlL_123 : Cond.methodLink RL 123 yX11_sets ∈ zTB := zin (zt3 (List.mem_of_getElem? (i := 218) (by decide +kernel))) rfl
theorem mlL_126 : Cond.methodLink RL 126 yX11_picture ∈ zTB := zin (zt4 (List.mem_of_getElem? (i := 60) (by decide +kernel))) rfl
theorem mlL_129 : Cond.methodLink RL 129 yX11_where ∈ zTB := zin (zt4 (List.mem_of_getElem? (i := 44) (by decide +kernel))) rfl
theorem mlL_132 : Cond.methodLink RL 132 yX11_way ∈ zTB := zin (zt3 (List.mem_of_getElem? (i := 238) (by decide +kernel))) rfl
theorem mlL_135 : Cond.methodLink RL 135 yX11_unseen ∈ zTB := zin (zt4 (List.mem_of_getElem? (i := 35) (by decide +kernel))) rfl
theorem mlX0_1 : Cond.methodLink RX0 1 Lib.objectInit ∈ zTB := zin (zt1 (List.mem_of_getElem? (i := 214) (by decide +kernel))) rfl
theorem mnX0_9 : (RX0, 9, yX1_init, "HandBeasts") ∈ zNst := by decide +kernel
theorem mlX0_25 : Cond.methodLink RX0 25 yJ13_bitCount_95d88 ∈ zTB := zin (zt3 (List.mem_of_getElem? (i := 144) (by decide +kernel))) rfl
theorem mlX0_34 : Cond.methodLink RX0 34 yX0_missed ∈ zTB := zin (zt3 (List.mem_of_getElem? (i := 149) (by decide +kernel))) rfl
theorem mlX0_38 : Cond.methodLink RX0 38 yX0_over ∈ zTB := zin (zt3 (List.mem_of_getElem? (i := 150) (by decide +kernel))) rfl
theorem mlX1_3 : Cond.methodLink RX1 3 Lib.objectInit ∈ zTB := zin (zt1 (List.mem_of_getElem? (i := 162) (by decide +kernel))) rfl
theorem mlX1_20 : Cond.methodLink RX1 20 yJ13_bitCount_95d88 ∈ zTB := zin (zt3 (List.mem_of_getElem? (i := 75) (by decide +kernel))) rfl
theorem mlX1_26 : Cond.methodLink RX1 26 yX1_isCell ∈ zTB := zin (zt3 (List.mem_of_getElem? (i := 27) (by decide +kernel))) rfl
theorem mlX1_30 : Cond.methodLink RX1 30 yX1_addLine ∈ zTB := zin (zt3 (List.mem_of_getElem? (i := 30) (by decide +kernel))) rfl
theorem mlX10_3 : Cond.methodLink RX10 3 Lib.objectInit ∈ zTB := zin (zt2 (List.mem_of_getElem? (i := 103) (by decide +kernel))) rfl
theorem mlX10_35 : Cond.methodLink RX10 35 yX6_isHeld ∈ zTB := zin (zt4 (List.mem_of_getElem? (i := 10) (by decide +kernel))) rfl
theorem mlX10_41 : Cond.methodLink RX10 41 yX6_offOf ∈ zTB := zin (zt4 (List.mem_of_getElem? (i := 43) (by decide +kernel))) rfl
theorem mlX10_45 : Cond.methodLink RX10 45 yX10_walk ∈ zTB := zin (zt4 (List.mem_of_getElem? (i := 23) (by decide +kernel))) rfl
theorem mlX10_49 : Cond.methodLink RX10 49 yX10_farOf ∈ zTB := zin (zt4 (List.mem_of_getElem? (i := 31) (by decide +kernel))) rfl
theorem mlX10_57 : Cond.methodLink RX10 57 yX10_come ∈ zTB := zin (zt4 (List.mem_of_getElem? (i := 27) (by decide +kernel))) rfl
theorem mlX11_3 : Cond.methodLink RX11 3 Lib.objectInit ∈ zTB := zin (zt1 (List.mem_of_getElem? (i := 21) (by decide +kernel))) rfl
theorem mnX11_11 : (RX11, 11, yX9_init, "HandBeasts") ∈ zNst := by decide +kernel
theorem mlX11_22 : Cond.methodLink RX11 22 yX8_init ∈ zTB := zin (zt1 (List.mem_of_getElem? (i := 50) (by decide +kernel))) rfl
theorem mnX11_30 : (RX11, 30, yX7_init, "HandBeasts") ∈ zNst := by decide +kernel
theorem mnX11_37 : (RX11, 37, yX2_init, "HandBeasts") ∈ zNst := by decide +kernel
theorem mnX11_47 : (RX11, 47, yX3_init, "HandBeasts") ∈ zNst := by decide +kernel
theorem mnX11_65 : (RX11, 65, yX5_init, "HandBeasts") ∈ zNst := by decide +kernel
theorem mnX11_72 : (RX11, 72, yX0_init, "HandBeasts") ∈ zNst := by decide +kernel
theorem mnX11_75 : (RX11, 75, yX4_init, "HandBeasts") ∈ zNst := by decide +kernel
theorem mnX11_82 : (RX11, 82, yX6_init, "HandBeasts") ∈ zNst := by decide +kernel
theorem mnX11_89 : (RX11, 89, yX10_init, "HandBeasts") ∈ zNst := by decide +kernel
theorem mnX11_96 : (RX11, 96, yX1_init, "HandBeasts") ∈ zNst := by decide +kernel
theorem mlX11_107 : Cond.methodLink RX11 107 yX11_isRow ∈ zTB := zin (zt2 (List.mem_of_getElem? (i := 193) (by decide +kernel))) rfl
theorem mlX11_111 : Cond.methodLink RX11 111 yX9_find ∈ zTB := zin (zt2 (List.mem_of_getElem? (i := 200) (by decide +kernel))) rfl
theorem mlX11_115 : Cond.methodLink RX11 115 yX8_renew ∈ zTB := zin (zt3 (List.mem_of_getElem? (i := 194) (by decide +kernel))) rfl
theorem mlX11_119 : Cond.methodLink RX11 119 yX8_isThere ∈ zTB := zin (zt2 (List.mem_of_getElem? (i := 196) (by decide +kernel))) rfl
theorem mlX11_123 : Cond.methodLink RX11 123 yX8_holds ∈ zTB := zin (zt2 (List.mem_of_getElem? (i := 204) (by decide +kernel))) rfl
theorem mlX11_126 : Cond.methodLink RX11 126 yX8_get ∈ zTB := zin (zt2 (List.mem_of_getElem? (i := 208) (by decide +kernel))) rfl
theorem mlX11_129 : Cond.methodLink RX11 129 yX8_set ∈ zTB := zin (zt3 (List.mem_of_getElem? (i := 196) (by decide +kernel))) rfl
theorem mlX11_132 : Cond.methodLink RX11 132 yX9_tell ∈ zTB := zin (zt2 (List.mem_of_getElem? (i := 213) (by decide +kernel))) rfl
theorem mlX11_153 : Cond.methodLink RX11 153 yX11_isText ∈ zTB := zin (zt4 (List.mem_of_getElem? (i := 100) (by decide +kernel))) rfl
theorem mlX11_156 : Cond.methodLink RX11 156 yX7_read ∈ zTB := zin (zt4 (List.mem_of_getElem? (i := 117) (by decide +kernel))) rfl
theorem mlX11_160 : Cond.methodLink RX11 160 yX11_dropPoses ∈ zTB := zin (zt4 (List.mem_of_getElem? (i := 166) (by decide +kernel))) rfl
theorem mlX11_163 : Cond.methodLink RX11 163 yX6_learn ∈ zTB := zin (zt4 (List.mem_of_getElem? (i := 178) (by decide +kernel))) rfl
theorem mlX11_186 : Cond.methodLink RX11 186 yX11_isJoint ∈ zTB := zin (zt2 (List.mem_of_getElem? (i := 225) (by decide +kernel))) rfl
theorem mlX11_201 : Cond.methodLink RX11 201 yX3_code ∈ zTB := zin (zt4 (List.mem_of_getElem? (i := 56) (by decide +kernel))) rfl
theorem mlX11_209 : Cond.methodLink RX11 209 yX2_canTurn ∈ zTB := zin (zt2 (List.mem_of_getElem? (i := 229) (by decide +kernel))) rfl
theorem mlX11_216 : Cond.methodLink RX11 216 yX5_begin ∈ zTB := zin (zt2 (List.mem_of_getElem? (i := 234) (by decide +kernel))) rfl
theorem mlX11_220 : Cond.methodLink RX11 220 yX5_judge ∈ zTB := zin (zt3 (List.mem_of_getElem? (i := 3) (by decide +kernel))) rfl
theorem mlX11_227 : Cond.methodLink RX11 227 yX11_isPose ∈ zTB := zin (zt3 (List.mem_of_getElem? (i := 47) (by decide +kernel))) rfl
theorem mlX11_230 : Cond.methodLink RX11 230 yX5_isHeld ∈ zTB := zin (zt4 (List.mem_of_getElem? (i := 2) (by decide +kernel))) rfl
theorem mlX11_233 : Cond.methodLink RX11 233 yX11_shadowFinding ∈ zTB := zin (zt3 (List.mem_of_getElem? (i := 121) (by decide +kernel))) rfl
theorem mlX11_240 : Cond.methodLink RX11 240 yX8_showTo ∈ zTB := zin (zt3 (List.mem_of_getElem? (i := 129) (by decide +kernel))) rfl
theorem mlX11_247 : Cond.methodLink RX11 247 yX1_number ∈ zTB := zin (zt3 (List.mem_of_getElem? (i := 71) (by decide +kernel))) rfl
theorem mlX11_265 : Cond.methodLink RX11 265 yX8_showCells ∈ zTB := zin (zt3 (List.mem_of_getElem? (i := 55) (by decide +kernel))) rfl
theorem mlX11_268 : Cond.methodLink RX11 268 yX5_shadow ∈ zTB := zin (zt3 (List.mem_of_getElem? (i := 85) (by decide +kernel))) rfl
theorem mlX11_272 : Cond.methodLink RX11 272 yX11_isBeast ∈ zTB := zin (zt3 (List.mem_of_getElem? (i := 118) (by decide +kernel))) rfl
theorem mlX11_295 : Cond.methodLink RX11 295 yX0_missed ∈ zTB := zin (zt3 (List.mem_of_getElem? (i := 139) (by decide +kernel))) rfl
theorem mlX11_299 : Cond.methodLink RX11 299 yX0_offOf ∈ zTB := zin (zt3 (List.mem_of_getElem? (i := 145) (by decide +kernel))) rfl
theorem mlX11_306 : Cond.methodLink RX11 306 yX6_isHeld ∈ zTB := zin (zt3 (List.mem_of_getElem? (i := 158) (by decide +kernel))) rfl
theorem mlX11_308 : Cond.methodLink RX11 308 yX6_isBarred ∈ zTB := zin (zt3 (List.mem_of_getElem? (i := 166) (by decide +kernel))) rfl
theorem mlX11_311 : Cond.methodLink RX11 311 yX6_shade ∈ zTB := zin (zt3 (List.mem_of_getElem? (i := 171) (by decide +kernel))) rfl
theorem mlX11_315 : Cond.methodLink RX11 315 yX6_nearestTurns ∈ zTB := zin (zt3 (List.mem_of_getElem? (i := 180) (by decide +kernel))) rfl
theorem mlX11_319 : Cond.methodLink RX11 319 yX6_turnAt ∈ zTB := zin (zt3 (List.mem_of_getElem? (i := 195) (by decide +kernel))) rfl
theorem mlX11_323 : Cond.methodLink RX11 323 yX6_offOf ∈ zTB := zin (zt3 (List.mem_of_getElem? (i := 197) (by decide +kernel))) rfl
theorem mlX11_326 : Cond.methodLink RX11 326 yX6_joinDark ∈ zTB := zin (zt3 (List.mem_of_getElem? (i := 202) (by decide +kernel))) rfl
theorem mlX11_330 : Cond.methodLink RX11 330 yX3_throwCells ∈ zTB := zin (zt3 (List.mem_of_getElem? (i := 208) (by decide +kernel))) rfl
theorem mlX11_334 : Cond.methodLink RX11 334 yX1_become ∈ zTB := zin (zt3 (List.mem_of_getElem? (i := 209) (by decide +kernel))) rfl
theorem mlX11_336 : Cond.methodLink RX11 336 yX1_leave ∈ zTB := zin (zt3 (List.mem_of_getElem? (i := 213) (by decide +kernel))) rfl
theorem mlX11_339 : Cond.methodLink RX11 339 yX6_alikeJoints ∈ zTB := zin (zt3 (List.mem_of_getElem? (i := 222) (by decide +kernel))) rfl
theorem mlX11_343 : Cond.methodLink RX11 343 yX6_numberThrowing ∈ zTB := zin (zt3 (List.mem_of_getElem? (i := 234) (by decide +kernel))) rfl
theorem mlX11_347 : Cond.methodLink RX11 347 yX10_openHeld ∈ zTB := zin (zt4 (List.mem_of_getElem? (i := 6) (by decide +kernel))) rfl
theorem mlX11_351 : Cond.methodLink RX11 351 yX11_placeOf ∈ zTB := zin (zt4 (List.mem_of_getElem? (i := 11) (by decide +kernel))) rfl
theorem mlX11_354 : Cond.methodLink RX11 354 yX10_length ∈ zTB := zin (zt4 (List.mem_of_getElem? (i := 19) (by decide +kernel))) rfl
theorem mlX11_357 : Cond.methodLink RX11 357 yX10_closeSeen ∈ zTB := zin (zt4 (List.mem_of_getElem? (i := 39) (by decide +kernel))) rfl
theorem mlX11_361 : Cond.methodLink RX11 361 yX3_becomeNumber ∈ zTB := zin (zt4 (List.mem_of_getElem? (i := 48) (by decide +kernel))) rfl
theorem mlX11_364 : Cond.methodLink RX11 364 yX11_numberThrowingBy ∈ zTB := zin (zt4 (List.mem_of_getElem? (i := 64) (by decide +kernel))) rfl
theorem mlX11_396 : Cond.methodLink RX11 396 yX6_leastOff ∈ zTB := zin (zt4 (List.mem_of_getElem? (i := 77) (by decide +kernel))) rfl
theorem mlX11_510 : Cond.methodLink RX11 510 yX8_hasLines ∈ zTB := zin (zt3 (List.mem_of_getElem? (i := 124) (by decide +kernel))) rfl
theorem mlX11_513 : Cond.methodLink RX11 513 yX4_dropCalls ∈ zTB := zin (zt4 (List.mem_of_getElem? (i := 170) (by decide +kernel))) rfl
theorem mlX11_516 : Cond.methodLink RX11 516 yX6_placeOf ∈ zTB := zin (zt4 (List.mem_of_getElem? (i := 15) (by decide +kernel))) rfl
theorem mlX11_519 : Cond.methodLink RX11 519 yX2_wristCells ∈ zTB := zin (zt4 (List.mem_of_getElem? (i := 68) (by decide +kernel))) rfl
theorem mlX11_523 : Cond.methodLink RX11 523 yX1_has ∈ zTB := zin (zt4 (List.mem_of_getElem? (i := 69) (by decide +kernel))) rfl
theorem mlX2_3 : Cond.methodLink RX2 3 Lib.objectInit ∈ zTB := zin (zt1 (List.mem_of_getElem? (i := 87) (by decide +kernel))) rfl
theorem mlX2_46 : Cond.methodLink RX2 46 yJ9_max_7cf53 ∈ zTB := zin (zt4 (List.mem_of_getElem? (i := 186) (by decide +kernel))) rfl
theorem mlX2_52 : Cond.methodLink RX2 52 yX8_get ∈ zTB := zin (zt2 (List.mem_of_getElem? (i := 233) (by decide +kernel))) rfl
theorem mlX2_58 : Cond.methodLink RX2 58 yX2_span ∈ zTB := zin (zt4 (List.mem_of_getElem? (i := 198) (by decide +kernel))) rfl
theorem mlX2_61 : Cond.methodLink RX2 61 yJ9_abs_0f7a4 ∈ zTB := zin (zt4 (List.mem_of_getElem? (i := 199) (by decide +kernel))) rfl
theorem mlX2_64 : Cond.methodLink RX2 64 yX1_clear ∈ zTB := zin (zt3 (List.mem_of_getElem? (i := 22) (by decide +kernel))) rfl
theorem mlX2_69 : Cond.methodLink RX2 69 yX1_addNew ∈ zTB := zin (zt3 (List.mem_of_getElem? (i := 23) (by decide +kernel))) rfl
theorem mlX2_79 : Cond.methodLink RX2 79 yX2_wristCells ∈ zTB := zin (zt3 (List.mem_of_getElem? (i := 18) (by decide +kernel))) rfl
theorem mlX2_83 : Cond.methodLink RX2 83 yX2_fingerCells ∈ zTB := zin (zt3 (List.mem_of_getElem? (i := 34) (by decide +kernel))) rfl
theorem mlX3_3 : Cond.methodLink RX3 3 Lib.objectInit ∈ zTB := zin (zt1 (List.mem_of_getElem? (i := 139) (by decide +kernel))) rfl
theorem mlX3_21 : Cond.methodLink RX3 21 yX3_become ∈ zTB := zin (zt4 (List.mem_of_getElem? (i := 52) (by decide +kernel))) rfl
theorem mlX3_25 : Cond.methodLink RX3 25 yX1_clear ∈ zTB := zin (zt3 (List.mem_of_getElem? (i := 93) (by decide +kernel))) rfl
theorem mlX3_30 : Cond.methodLink RX3 30 yX3_throwHalf ∈ zTB := zin (zt3 (List.mem_of_getElem? (i := 94) (by decide +kernel))) rfl
theorem mlX3_34 : Cond.methodLink RX3 34 yJ13_numberOfTrailingZeros_95d88 ∈ zTB := zin (zt3 (List.mem_of_getElem? (i := 98) (by decide +kernel))) rfl
theorem mlX3_40 : Cond.methodLink RX3 40 yX3_throwCell ∈ zTB := zin (zt3 (List.mem_of_getElem? (i := 105) (by decide +kernel))) rfl
theorem mlX3_44 : Cond.methodLink RX3 44 yX1_addLine ∈ zTB := zin (zt3 (List.mem_of_getElem? (i := 109) (by decide +kernel))) rfl
theorem mlX4_3 : Cond.methodLink RX4 3 Lib.objectInit ∈ zTB := zin (zt1 (List.mem_of_getElem? (i := 237) (by decide +kernel))) rfl
theorem mlX4_45 : Cond.methodLink RX4 45 yX4_setCall ∈ zTB := zin (zt4 (List.mem_of_getElem? (i := 174) (by decide +kernel))) rfl
theorem mlX5_3 : Cond.methodLink RX5 3 Lib.objectInit ∈ zTB := zin (zt1 (List.mem_of_getElem? (i := 156) (by decide +kernel))) rfl
theorem mnX5_17 : (RX5, 17, yX1_init, "HandBeasts") ∈ zNst := by decide +kernel
theorem mlX5_25 : Cond.methodLink RX5 25 yX8_get ∈ zTB := zin (zt2 (List.mem_of_getElem? (i := 238) (by decide +kernel))) rfl
theorem mlX5_35 : Cond.methodLink RX5 35 yX1_clear ∈ zTB := zin (zt2 (List.mem_of_getElem? (i := 239) (by decide +kernel))) rfl
theorem mlX5_38 : Cond.methodLink RX5 38 yX5_weigh ∈ zTB := zin (zt3 (List.mem_of_getElem? (i := 7) (by decide +kernel))) rfl
theorem mlX5_45 : Cond.methodLink RX5 45 yX2_allCells ∈ zTB := zin (zt3 (List.mem_of_getElem? (i := 14) (by decide +kernel))) rfl
theorem mlX5_54 : Cond.methodLink RX5 54 yJ9_max_7cf53 ∈ zTB := zin (zt3 (List.mem_of_getElem? (i := 42) (by decide +kernel))) rfl
theorem mlX5_66 : Cond.methodLink RX5 66 yJ9_abs_0f7a4 ∈ zTB := zin (zt3 (List.mem_of_getElem? (i := 11) (by decide +kernel))) rfl
theorem mlX5_76 : Cond.methodLink RX5 76 yX3_throwCells ∈ zTB := zin (zt3 (List.mem_of_getElem? (i := 89) (by decide +kernel))) rfl
theorem mlX5_82 : Cond.methodLink RX5 82 yX1_join ∈ zTB := zin (zt3 (List.mem_of_getElem? (i := 110) (by decide +kernel))) rfl
theorem mlX6_3 : Cond.methodLink RX6 3 Lib.objectInit ∈ zTB := zin (zt2 (List.mem_of_getElem? (i := 37) (by decide +kernel))) rfl
theorem mnX6_62 : (RX6, 62, yX1_init, "HandBeasts") ∈ zNst := by decide +kernel
theorem mlX6_72 : Cond.methodLink RX6 72 yX2_span ∈ zTB := zin (zt4 (List.mem_of_getElem? (i := 182) (by decide +kernel))) rfl
theorem mlX6_78 : Cond.methodLink RX6 78 yX6_learnFinger ∈ zTB := zin (zt4 (List.mem_of_getElem? (i := 187) (by decide +kernel))) rfl
theorem mlX6_86 : Cond.methodLink RX6 86 yX6_combine ∈ zTB := zin (zt4 (List.mem_of_getElem? (i := 201) (by decide +kernel))) rfl
theorem mlX6_95 : Cond.methodLink RX6 95 yJ9_min_7cf53 ∈ zTB := zin (zt4 (List.mem_of_getElem? (i := 191) (by decide +kernel))) rfl
theorem mlX6_101 : Cond.methodLink RX6 101 yX2_turnFinger ∈ zTB := zin (zt4 (List.mem_of_getElem? (i := 194) (by decide +kernel))) rfl
theorem mlX6_105 : Cond.methodLink RX6 105 yX1_clear ∈ zTB := zin (zt3 (List.mem_of_getElem? (i := 206) (by decide +kernel))) rfl
theorem mlX6_108 : Cond.methodLink RX6 108 yX2_fingerCells ∈ zTB := zin (zt4 (List.mem_of_getElem? (i := 200) (by decide +kernel))) rfl
theorem mlX6_117 : Cond.methodLink RX6 117 yX2_wristCells ∈ zTB := zin (zt3 (List.mem_of_getElem? (i := 175) (by decide +kernel))) rfl
theorem mlX6_124 : Cond.methodLink RX6 124 yX6_joinLoads ∈ zTB := zin (zt4 (List.mem_of_getElem? (i := 205) (by decide +kernel))) rfl
theorem mlX6_128 : Cond.methodLink RX6 128 yX6_join ∈ zTB := zin (zt3 (List.mem_of_getElem? (i := 177) (by decide +kernel))) rfl
theorem mlX6_132 : Cond.methodLink RX6 132 yX3_throwCells ∈ zTB := zin (zt3 (List.mem_of_getElem? (i := 176) (by decide +kernel))) rfl
theorem mlX6_138 : Cond.methodLink RX6 138 yX6_joinedLoad ∈ zTB := zin (zt4 (List.mem_of_getElem? (i := 209) (by decide +kernel))) rfl
theorem mlX6_142 : Cond.methodLink RX6 142 yX6_isBarred ∈ zTB := zin (zt3 (List.mem_of_getElem? (i := 162) (by decide +kernel))) rfl
theorem mlX6_149 : Cond.methodLink RX6 149 yX0_offOf ∈ zTB := zin (zt3 (List.mem_of_getElem? (i := 193) (by decide +kernel))) rfl
theorem mlX6_155 : Cond.methodLink RX6 155 yX6_isHeld ∈ zTB := zin (zt3 (List.mem_of_getElem? (i := 184) (by decide +kernel))) rfl
theorem mlX6_159 : Cond.methodLink RX6 159 yX6_turnAt ∈ zTB := zin (zt3 (List.mem_of_getElem? (i := 185) (by decide +kernel))) rfl
theorem mlX6_163 : Cond.methodLink RX6 163 yX6_offOf ∈ zTB := zin (zt3 (List.mem_of_getElem? (i := 189) (by decide +kernel))) rfl
theorem mlX6_166 : Cond.methodLink RX6 166 yX6_nearestTurns ∈ zTB := zin (zt4 (List.mem_of_getElem? (i := 81) (by decide +kernel))) rfl
theorem mlX6_170 : Cond.methodLink RX6 170 yX1_join ∈ zTB := zin (zt3 (List.mem_of_getElem? (i := 207) (by decide +kernel))) rfl
theorem mlX6_173 : Cond.methodLink RX6 173 yX1_is ∈ zTB := zin (zt3 (List.mem_of_getElem? (i := 230) (by decide +kernel))) rfl
theorem mlX6_177 : Cond.methodLink RX6 177 yX6_throwsJust ∈ zTB := zin (zt3 (List.mem_of_getElem? (i := 226) (by decide +kernel))) rfl
theorem mlX7_3 : Cond.methodLink RX7 3 Lib.objectInit ∈ zTB := zin (zt1 (List.mem_of_getElem? (i := 71) (by decide +kernel))) rfl
theorem mlX7_23 : Cond.methodLink RX7 23 yX2_clear ∈ zTB := zin (zt4 (List.mem_of_getElem? (i := 121) (by decide +kernel))) rfl
theorem mlX7_33 : Cond.methodLink RX7 33 yX7_readOne ∈ zTB := zin (zt4 (List.mem_of_getElem? (i := 125) (by decide +kernel))) rfl
theorem mlX7_37 : Cond.methodLink RX7 37 yX8_get ∈ zTB := zin (zt4 (List.mem_of_getElem? (i := 129) (by decide +kernel))) rfl
theorem mlX7_41 : Cond.methodLink RX7 41 yX7_readHand ∈ zTB := zin (zt4 (List.mem_of_getElem? (i := 130) (by decide +kernel))) rfl
theorem mlX7_44 : Cond.methodLink RX7 44 yX7_readFinger ∈ zTB := zin (zt4 (List.mem_of_getElem? (i := 143) (by decide +kernel))) rfl
theorem mlX7_50 : Cond.methodLink RX7 50 yX7_figure ∈ zTB := zin (zt4 (List.mem_of_getElem? (i := 134) (by decide +kernel))) rfl
theorem mlX7_54 : Cond.methodLink RX7 54 yX2_addHand ∈ zTB := zin (zt4 (List.mem_of_getElem? (i := 139) (by decide +kernel))) rfl
theorem mlX7_61 : Cond.methodLink RX7 61 yX2_addFinger ∈ zTB := zin (zt4 (List.mem_of_getElem? (i := 147) (by decide +kernel))) rfl
theorem mlX7_64 : Cond.methodLink RX7 64 yX7_readJoint ∈ zTB := zin (zt4 (List.mem_of_getElem? (i := 151) (by decide +kernel))) rfl
theorem mlX7_70 : Cond.methodLink RX7 70 yX7_isTurn ∈ zTB := zin (zt4 (List.mem_of_getElem? (i := 155) (by decide +kernel))) rfl
theorem mlX7_73 : Cond.methodLink RX7 73 yX2_addJoint ∈ zTB := zin (zt4 (List.mem_of_getElem? (i := 158) (by decide +kernel))) rfl
theorem mlX7_77 : Cond.methodLink RX7 77 yX8_holds ∈ zTB := zin (zt4 (List.mem_of_getElem? (i := 138) (by decide +kernel))) rfl
theorem mlX8_3 : Cond.methodLink RX8 3 Lib.objectInit ∈ zTB := zin (zt1 (List.mem_of_getElem? (i := 53) (by decide +kernel))) rfl
theorem mlX8_15 : Cond.methodLink RX8 15 yJ9_max_7cf53 ∈ zTB := zin (zt1 (List.mem_of_getElem? (i := 54) (by decide +kernel))) rfl
theorem mlX8_25 : Cond.methodLink RX8 25 yX8_holds ∈ zTB := zin (zt2 (List.mem_of_getElem? (i := 212) (by decide +kernel))) rfl
theorem mlX8_39 : Cond.methodLink RX8 39 yX8_get ∈ zTB := zin (zt3 (List.mem_of_getElem? (i := 128) (by decide +kernel))) rfl
theorem mlX8_43 : Cond.methodLink RX8 43 yX8_renew ∈ zTB := zin (zt3 (List.mem_of_getElem? (i := 59) (by decide +kernel))) rfl
theorem mlX8_47 : Cond.methodLink RX8 47 yX1_line ∈ zTB := zin (zt3 (List.mem_of_getElem? (i := 63) (by decide +kernel))) rfl
theorem mlX8_52 : Cond.methodLink RX8 52 yX8_set ∈ zTB := zin (zt3 (List.mem_of_getElem? (i := 67) (by decide +kernel))) rfl
theorem mlX8_55 : Cond.methodLink RX8 55 yX1_clear ∈ zTB := zin (zt3 (List.mem_of_getElem? (i := 133) (by decide +kernel))) rfl
theorem mlX8_58 : Cond.methodLink RX8 58 yX1_addLine ∈ zTB := zin (zt3 (List.mem_of_getElem? (i := 134) (by decide +kernel))) rfl
theorem mlX9_3 : Cond.methodLink RX9 3 Lib.objectInit ∈ zTB := zin (zt1 (List.mem_of_getElem? (i := 29) (by decide +kernel))) rfl
theorem obI : Cond.instanceMethod Lib.objectInit ∈ zTB := zin (zt1 (List.mem_of_getElem? (i := 22) (by decide +kernel))) rfl
theorem obC : Cond.code Lib.objectInit ⟨#[0xb1]⟩ 1 none ∈ zTB := zin (zt1 (List.mem_of_getElem? (i := 23) rfl)) rfl
theorem cnJ13_314 : Cond.constantLong RJ13 314 (6148914691236517205) ∈ zTB := zin (zt3 (List.mem_of_getElem? (i := 78) (by decide +kernel))) rfl
theorem cnJ13_316 : Cond.constantLong RJ13 316 (3689348814741910323) ∈ zTB := zin (zt3 (List.mem_of_getElem? (i := 79) (by decide +kernel))) rfl
theorem cnJ13_318 : Cond.constantLong RJ13 318 (1085102592571150095) ∈ zTB := zin (zt3 (List.mem_of_getElem? (i := 80) (by decide +kernel))) rfl
theorem cnJ6_264 : Cond.constant RJ6 264 (65536) ∈ zTB := zin (zt3 (List.mem_of_getElem? (i := 104) (by decide +kernel))) rfl
theorem cnL_7 : Cond.constant RL 7 (268435455) ∈ zTB := zin (zt4 (List.mem_of_getElem? (i := 89) (by decide +kernel))) rfl
theorem cnX0_23 : Cond.constantLong RX0 23 (-1) ∈ zTB := zin (zt3 (List.mem_of_getElem? (i := 143) (by decide +kernel))) rfl
theorem cnX1_18 : Cond.constantLong RX1 18 (-1) ∈ zTB := zin (zt3 (List.mem_of_getElem? (i := 217) (by decide +kernel))) rfl
theorem flX0_10 : zFl RX0 10 0 0 2 := ⟨_, _, _, rfl, by decide, uwX0, zin (zt1 (List.mem_of_getElem? (i := 217) (by decide +kernel))) rfl, rfl⟩
theorem plX0_10 : zPl RX0 10 0 0 2 (.object "HandBeasts$Cells") true := ⟨_, _, _, tyX0, rfl, by decide, uwX0, zin (zt1 (List.mem_of_getElem? (i := 217) (by decide +kernel))) rfl, rfl, tyX0_ok, nmX0, rfl, by decide +kernel, fun _ => rfl⟩
theorem flX0_16 : zFl RX0 16 0 1 2 := ⟨_, _, _, rfl, by decide, uwX0, zin (zt1 (List.mem_of_getElem? (i := 219) (by decide +kernel))) rfl, rfl⟩
theorem plX0_16 : zPl RX0 16 0 1 2 (.object "HandBeasts$Cells") true := ⟨_, _, _, tyX0, rfl, by decide, uwX0, zin (zt1 (List.mem_of_getElem? (i := 219) (by decide +kernel))) rfl, rfl, tyX0_ok, nmX0, rfl, by decide +kernel, fun _ => rfl⟩
theorem flX0_19 : zFl RX0 19 1 0 1 := ⟨_, _, _, rfl, by decide, uwX1, zin (zt1 (List.mem_of_getElem? (i := 164) (by decide +kernel))) rfl, rfl⟩
theorem plX0_19 : zPl RX0 19 1 0 1 .long false := ⟨_, _, _, tyX1, rfl, by decide, uwX1, zin (zt1 (List.mem_of_getElem? (i := 164) (by decide +kernel))) rfl, rfl, tyX1_ok, nmX1, rfl, by decide +kernel, fun _ => by contradiction⟩
theorem flX0_31 : zFl RX0 31 1 1 1 := ⟨_, _, _, rfl, by decide, uwX1, zin (zt1 (List.mem_of_getElem? (i := 169) (by decide +kernel))) rfl, rfl⟩
theorem plX0_31 : zPl RX0 31 1 1 1 .long false := ⟨_, _, _, tyX1, rfl, by decide, uwX1, zin (zt1 (List.mem_of_getElem? (i := 169) (by decide +kernel))) rfl, rfl, tyX1_ok, nmX1, rfl, by decide +kernel, fun _ => by contradiction⟩
theorem flX1_9 : zFl RX1 9 1 0 1 := ⟨_, _, _, rfl, by decide, uwX1, zin (zt1 (List.mem_of_getElem? (i := 163) (by decide +kernel))) rfl, rfl⟩
theorem plX1_9 : zPl RX1 9 1 0 1 .long false := ⟨_, _, _, tyX1, rfl, by decide, uwX1, zin (zt1 (List.mem_of_getElem? (i := 163) (by decide +kernel))) rfl, rfl, tyX1_ok, nmX1, rfl, by decide +kernel, fun _ => rfl⟩
theorem flX1_15 : zFl RX1 15 1 1 1 := ⟨_, _, _, rfl, by decide, uwX1, zin (zt1 (List.mem_of_getElem? (i := 168) (by decide +kernel))) rfl, rfl⟩
theorem plX1_15 : zPl RX1 15 1 1 1 .long false := ⟨_, _, _, tyX1, rfl, by decide, uwX1, zin (zt1 (List.mem_of_getElem? (i := 168) (by decide +kernel))) rfl, rfl, tyX1_ok, nmX1, rfl, by decide +kernel, fun _ => rfl⟩
theorem flX10_9 : zFl RX10 9 10 0 2 := ⟨_, _, _, rfl, by decide, uwX10, zin (zt2 (List.mem_of_getElem? (i := 105) (by decide +kernel))) rfl, rfl⟩
theorem plX10_9 : zPl RX10 9 10 0 2 (.array .int) true := ⟨_, _, _, tyX10, rfl, by decide, uwX10, zin (zt2 (List.mem_of_getElem? (i := 105) (by decide +kernel))) rfl, rfl, tyX10_ok, nmX10, rfl, by decide +kernel, fun _ => rfl⟩
theorem flX10_15 : zFl RX10 15 10 1 2 := ⟨_, _, _, rfl, by decide, uwX10, zin (zt2 (List.mem_of_getElem? (i := 106) (by decide +kernel))) rfl, rfl⟩
theorem plX10_15 : zPl RX10 15 10 1 2 (.array .int) true := ⟨_, _, _, tyX10, rfl, by decide, uwX10, zin (zt2 (List.mem_of_getElem? (i := 106) (by decide +kernel))) rfl, rfl, tyX10_ok, nmX10, rfl, by decide +kernel, fun _ => rfl⟩
theorem flX10_18 : zFl RX10 18 10 4 2 := ⟨_, _, _, rfl, by decide, uwX10, zin (zt2 (List.mem_of_getElem? (i := 108) (by decide +kernel))) rfl, rfl⟩
theorem plX10_18 : zPl RX10 18 10 4 2 (.array .int) true := ⟨_, _, _, tyX10, rfl, by decide, uwX10, zin (zt2 (List.mem_of_getElem? (i := 108) (by decide +kernel))) rfl, rfl, tyX10_ok, nmX10, rfl, by decide +kernel, fun _ => rfl⟩
theorem flX10_21 : zFl RX10 21 10 5 2 := ⟨_, _, _, rfl, by decide, uwX10, zin (zt2 (List.mem_of_getElem? (i := 109) (by decide +kernel))) rfl, rfl⟩
theorem plX10_21 : zPl RX10 21 10 5 2 (.array .int) true := ⟨_, _, _, tyX10, rfl, by decide, uwX10, zin (zt2 (List.mem_of_getElem? (i := 109) (by decide +kernel))) rfl, rfl, tyX10_ok, nmX10, rfl, by decide +kernel, fun _ => rfl⟩
theorem flX10_26 : zFl RX10 26 10 6 2 := ⟨_, _, _, rfl, by decide, uwX10, zin (zt2 (List.mem_of_getElem? (i := 110) (by decide +kernel))) rfl, rfl⟩
theorem plX10_26 : zPl RX10 26 10 6 2 (.array (.array .int)) true := ⟨_, _, _, tyX10, rfl, by decide, uwX10, zin (zt2 (List.mem_of_getElem? (i := 110) (by decide +kernel))) rfl, rfl, tyX10_ok, nmX10, rfl, by decide +kernel, fun _ => rfl⟩
theorem flX10_29 : zFl RX10 29 10 7 2 := ⟨_, _, _, rfl, by decide, uwX10, zin (zt2 (List.mem_of_getElem? (i := 111) (by decide +kernel))) rfl, rfl⟩
theorem plX10_29 : zPl RX10 29 10 7 2 (.array .int) true := ⟨_, _, _, tyX10, rfl, by decide, uwX10, zin (zt2 (List.mem_of_getElem? (i := 111) (by decide +kernel))) rfl, rfl, tyX10_ok, nmX10, rfl, by decide +kernel, fun _ => rfl⟩
theorem flX10_32 : zFl RX10 32 10 8 2 := ⟨_, _, _, rfl, by decide, uwX10, zin (zt2 (List.mem_of_getElem? (i := 112) (by decide +kernel))) rfl, rfl⟩
theorem plX10_32 : zPl RX10 32 10 8 2 (.array .int) true := ⟨_, _, _, tyX10, rfl, by decide, uwX10, zin (zt2 (List.mem_of_getElem? (i := 112) (by decide +kernel))) rfl, rfl, tyX10_ok, nmX10, rfl, by decide +kernel, fun _ => rfl⟩
theorem flX10_53 : zFl RX10 53 10 2 0 := ⟨_, _, _, rfl, by decide, uwX10, zin (zt2 (List.mem_of_getElem? (i := 107) (by decide +kernel))) rfl, rfl⟩
theorem plX10_53 : zPl RX10 53 10 2 0 .int false := ⟨_, _, _, tyX10, rfl, by decide, uwX10, zin (zt2 (List.mem_of_getElem? (i := 107) (by decide +kernel))) rfl, rfl, tyX10_ok, nmX10, rfl, by decide +kernel, fun _ => rfl⟩
theorem flX10_61 : zFl RX10 61 2 2 0 := ⟨_, _, _, rfl, by decide, uwX2, zin (zt1 (List.mem_of_getElem? (i := 96) (by decide +kernel))) rfl, rfl⟩
theorem plX10_61 : zPl RX10 61 2 2 0 .int false := ⟨_, _, _, tyX2, rfl, by decide, uwX2, zin (zt1 (List.mem_of_getElem? (i := 96) (by decide +kernel))) rfl, rfl, tyX2_ok, nmX2, rfl, by decide +kernel, fun _ => by contradiction⟩
theorem flX10_66 : zFl RX10 66 6 2 2 := ⟨_, _, _, rfl, by decide, uwX6, zin (zt2 (List.mem_of_getElem? (i := 45) (by decide +kernel))) rfl, rfl⟩
theorem flX10_69 : zFl RX10 69 6 3 2 := ⟨_, _, _, rfl, by decide, uwX6, zin (zt2 (List.mem_of_getElem? (i := 47) (by decide +kernel))) rfl, rfl⟩
theorem flX11_12 : zFl RX11 12 11 0 2 := ⟨_, _, _, rfl, by decide, uwX11, zin (zt2 (List.mem_of_getElem? (i := 134) (by decide +kernel))) rfl, rfl⟩
theorem plX11_12 : zPl RX11 12 11 0 2 (.object "HandBeasts$Told") true := ⟨_, _, _, tyX11, rfl, by decide, uwX11, zin (zt2 (List.mem_of_getElem? (i := 134) (by decide +kernel))) rfl, rfl, tyX11_ok, nmX11, rfl, by decide +kernel, fun _ => rfl⟩
theorem flX11_18 : zFl RX11 18 11 1 2 := ⟨_, _, _, rfl, by decide, uwX11, zin (zt2 (List.mem_of_getElem? (i := 135) (by decide +kernel))) rfl, rfl⟩
theorem plX11_18 : zPl RX11 18 11 1 2 (.array (.object "HandBeasts$Row")) true := ⟨_, _, _, tyX11, rfl, by decide, uwX11, zin (zt2 (List.mem_of_getElem? (i := 135) (by decide +kernel))) rfl, rfl, tyX11_ok, nmX11, rfl, by decide +kernel, fun _ => rfl⟩
theorem flX11_25 : zFl RX11 25 11 2 2 := ⟨_, _, _, rfl, by decide, uwX11, zin (zt2 (List.mem_of_getElem? (i := 136) (by decide +kernel))) rfl, rfl⟩
theorem plX11_25 : zPl RX11 25 11 2 2 (.array (.object "HandBeasts$Row")) true := ⟨_, _, _, tyX11, rfl, by decide, uwX11, zin (zt2 (List.mem_of_getElem? (i := 136) (by decide +kernel))) rfl, rfl, tyX11_ok, nmX11, rfl, by decide +kernel, fun _ => rfl⟩
theorem flX11_31 : zFl RX11 31 11 3 2 := ⟨_, _, _, rfl, by decide, uwX11, zin (zt2 (List.mem_of_getElem? (i := 137) (by decide +kernel))) rfl, rfl⟩
theorem plX11_31 : zPl RX11 31 11 3 2 (.object "HandBeasts$Reader") true := ⟨_, _, _, tyX11, rfl, by decide, uwX11, zin (zt2 (List.mem_of_getElem? (i := 137) (by decide +kernel))) rfl, rfl, tyX11_ok, nmX11, rfl, by decide +kernel, fun _ => rfl⟩
theorem flX11_38 : zFl RX11 38 11 4 2 := ⟨_, _, _, rfl, by decide, uwX11, zin (zt2 (List.mem_of_getElem? (i := 138) (by decide +kernel))) rfl, rfl⟩
theorem plX11_38 : zPl RX11 38 11 4 2 (.object "HandBeasts$Hands") true := ⟨_, _, _, tyX11, rfl, by decide, uwX11, zin (zt2 (List.mem_of_getElem? (i := 138) (by decide +kernel))) rfl, rfl, tyX11_ok, nmX11, rfl, by decide +kernel, fun _ => rfl⟩
theorem flX11_42 : zFl RX11 42 11 5 2 := ⟨_, _, _, rfl, by decide, uwX11, zin (zt2 (List.mem_of_getElem? (i := 139) (by decide +kernel))) rfl, rfl⟩
theorem plX11_42 : zPl RX11 42 11 5 2 (.object "HandBeasts$Hands") true := ⟨_, _, _, tyX11, rfl, by decide, uwX11, zin (zt2 (List.mem_of_getElem? (i := 139) (by decide +kernel))) rfl, rfl, tyX11_ok, nmX11, rfl, by decide +kernel, fun _ => rfl⟩
theorem flX11_48 : zFl RX11 48 11 6 2 := ⟨_, _, _, rfl, by decide, uwX11, zin (zt2 (List.mem_of_getElem? (i := 140) (by decide +kernel))) rfl, rfl⟩
theorem plX11_48 : zPl RX11 48 11 6 2 (.object "HandBeasts$Lamp") true := ⟨_, _, _, tyX11, rfl, by decide, uwX11, zin (zt2 (List.mem_of_getElem? (i := 140) (by decide +kernel))) rfl, rfl, tyX11_ok, nmX11, rfl, by decide +kernel, fun _ => rfl⟩
theorem flX11_52 : zFl RX11 52 11 7 2 := ⟨_, _, _, rfl, by decide, uwX11, zin (zt2 (List.mem_of_getElem? (i := 141) (by decide +kernel))) rfl, rfl⟩
theorem plX11_52 : zPl RX11 52 11 7 2 (.object "HandBeasts$Lamp") true := ⟨_, _, _, tyX11, rfl, by decide, uwX11, zin (zt2 (List.mem_of_getElem? (i := 141) (by decide +kernel))) rfl, rfl, tyX11_ok, nmX11, rfl, by decide +kernel, fun _ => rfl⟩
theorem flX11_55 : zFl RX11 55 11 8 0 := ⟨_, _, _, rfl, by decide, uwX11, zin (zt2 (List.mem_of_getElem? (i := 142) (by decide +kernel))) rfl, rfl⟩
theorem plX11_55 : zPl RX11 55 11 8 0 .int false := ⟨_, _, _, tyX11, rfl, by decide, uwX11, zin (zt2 (List.mem_of_getElem? (i := 142) (by decide +kernel))) rfl, rfl, tyX11_ok, nmX11, rfl, by decide +kernel, fun _ => rfl⟩
theorem flX11_61 : zFl RX11 61 11 9 2 := ⟨_, _, _, rfl, by decide, uwX11, zin (zt2 (List.mem_of_getElem? (i := 143) (by decide +kernel))) rfl, rfl⟩
theorem plX11_61 : zPl RX11 61 11 9 2 (.array (.object "HandBeasts$Pose")) true := ⟨_, _, _, tyX11, rfl, by decide, uwX11, zin (zt2 (List.mem_of_getElem? (i := 143) (by decide +kernel))) rfl, rfl, tyX11_ok, nmX11, rfl, by decide +kernel, fun _ => rfl⟩
theorem flX11_68 : zFl RX11 68 11 11 2 := ⟨_, _, _, rfl, by decide, uwX11, zin (zt2 (List.mem_of_getElem? (i := 145) (by decide +kernel))) rfl, rfl⟩
theorem plX11_68 : zPl RX11 68 11 11 2 (.array (.object "HandBeasts$Beast")) true := ⟨_, _, _, tyX11, rfl, by decide, uwX11, zin (zt2 (List.mem_of_getElem? (i := 145) (by decide +kernel))) rfl, rfl, tyX11_ok, nmX11, rfl, by decide +kernel, fun _ => rfl⟩
theorem flX11_76 : zFl RX11 76 11 12 2 := ⟨_, _, _, rfl, by decide, uwX11, zin (zt2 (List.mem_of_getElem? (i := 146) (by decide +kernel))) rfl, rfl⟩
theorem plX11_76 : zPl RX11 76 11 12 2 (.object "HandBeasts$Lookers") true := ⟨_, _, _, tyX11, rfl, by decide, uwX11, zin (zt2 (List.mem_of_getElem? (i := 146) (by decide +kernel))) rfl, rfl, tyX11_ok, nmX11, rfl, by decide +kernel, fun _ => rfl⟩
theorem flX11_83 : zFl RX11 83 11 13 2 := ⟨_, _, _, rfl, by decide, uwX11, zin (zt2 (List.mem_of_getElem? (i := 147) (by decide +kernel))) rfl, rfl⟩
theorem plX11_83 : zPl RX11 83 11 13 2 (.object "HandBeasts$Reach") true := ⟨_, _, _, tyX11, rfl, by decide, uwX11, zin (zt2 (List.mem_of_getElem? (i := 147) (by decide +kernel))) rfl, rfl, tyX11_ok, nmX11, rfl, by decide +kernel, fun _ => rfl⟩
theorem flX11_90 : zFl RX11 90 11 14 2 := ⟨_, _, _, rfl, by decide, uwX11, zin (zt2 (List.mem_of_getElem? (i := 148) (by decide +kernel))) rfl, rfl⟩
theorem plX11_90 : zPl RX11 90 11 14 2 (.object "HandBeasts$Ways") true := ⟨_, _, _, tyX11, rfl, by decide, uwX11, zin (zt2 (List.mem_of_getElem? (i := 148) (by decide +kernel))) rfl, rfl, tyX11_ok, nmX11, rfl, by decide +kernel, fun _ => rfl⟩
theorem flX11_97 : zFl RX11 97 11 15 2 := ⟨_, _, _, rfl, by decide, uwX11, zin (zt2 (List.mem_of_getElem? (i := 149) (by decide +kernel))) rfl, rfl⟩
theorem plX11_97 : zPl RX11 97 11 15 2 (.object "HandBeasts$Cells") true := ⟨_, _, _, tyX11, rfl, by decide, uwX11, zin (zt2 (List.mem_of_getElem? (i := 149) (by decide +kernel))) rfl, rfl, tyX11_ok, nmX11, rfl, by decide +kernel, fun _ => rfl⟩
theorem flX11_101 : zFl RX11 101 11 16 2 := ⟨_, _, _, rfl, by decide, uwX11, zin (zt2 (List.mem_of_getElem? (i := 150) (by decide +kernel))) rfl, rfl⟩
theorem plX11_101 : zPl RX11 101 11 16 2 (.object "HandBeasts$Cells") true := ⟨_, _, _, tyX11, rfl, by decide, uwX11, zin (zt2 (List.mem_of_getElem? (i := 150) (by decide +kernel))) rfl, rfl, tyX11_ok, nmX11, rfl, by decide +kernel, fun _ => rfl⟩
theorem flX11_104 : zFl RX11 104 11 17 2 := ⟨_, _, _, rfl, by decide, uwX11, zin (zt2 (List.mem_of_getElem? (i := 151) (by decide +kernel))) rfl, rfl⟩
theorem plX11_104 : zPl RX11 104 11 17 2 (.object "HandBeasts$Cells") true := ⟨_, _, _, tyX11, rfl, by decide, uwX11, zin (zt2 (List.mem_of_getElem? (i := 151) (by decide +kernel))) rfl, rfl, tyX11_ok, nmX11, rfl, by decide +kernel, fun _ => rfl⟩
theorem flX11_146 : zFl RX11 146 8 0 0 := ⟨_, _, _, rfl, by decide, uwX8, zin (zt1 (List.mem_of_getElem? (i := 59) (by decide +kernel))) rfl, rfl⟩
theorem plX11_146 : zPl RX11 146 8 0 0 .int false := ⟨_, _, _, tyX8, rfl, by decide, uwX8, zin (zt1 (List.mem_of_getElem? (i := 59) (by decide +kernel))) rfl, rfl, tyX8_ok, nmX8, rfl, by decide +kernel, fun _ => by contradiction⟩
theorem flX11_167 : zFl RX11 167 2 2 0 := ⟨_, _, _, rfl, by decide, uwX2, zin (zt1 (List.mem_of_getElem? (i := 97) (by decide +kernel))) rfl, rfl⟩
theorem plX11_167 : zPl RX11 167 2 2 0 .int false := ⟨_, _, _, tyX2, rfl, by decide, uwX2, zin (zt1 (List.mem_of_getElem? (i := 97) (by decide +kernel))) rfl, rfl, tyX2_ok, nmX2, rfl, by decide +kernel, fun _ => by contradiction⟩
theorem flX11_195 : zFl RX11 195 2 10 2 := ⟨_, _, _, rfl, by decide, uwX2, zin (zt1 (List.mem_of_getElem? (i := 110) (by decide +kernel))) rfl, rfl⟩
theorem flX11_213 : zFl RX11 213 11 10 0 := ⟨_, _, _, rfl, by decide, uwX11, zin (zt2 (List.mem_of_getElem? (i := 144) (by decide +kernel))) rfl, rfl⟩
theorem plX11_213 : zPl RX11 213 11 10 0 .int false := ⟨_, _, _, tyX11, rfl, by decide, uwX11, zin (zt2 (List.mem_of_getElem? (i := 144) (by decide +kernel))) rfl, rfl, tyX11_ok, nmX11, rfl, by decide +kernel, fun _ => rfl⟩
theorem flX11_224 : zFl RX11 224 5 3 0 := ⟨_, _, _, rfl, by decide, uwX5, zin (zt1 (List.mem_of_getElem? (i := 184) (by decide +kernel))) rfl, rfl⟩
theorem plX11_224 : zPl RX11 224 5 3 0 .int false := ⟨_, _, _, tyX5, rfl, by decide, uwX5, zin (zt1 (List.mem_of_getElem? (i := 184) (by decide +kernel))) rfl, rfl, tyX5_ok, nmX5, rfl, by decide +kernel, fun _ => by contradiction⟩
theorem flX11_244 : zFl RX11 244 5 4 0 := ⟨_, _, _, rfl, by decide, uwX5, zin (zt1 (List.mem_of_getElem? (i := 186) (by decide +kernel))) rfl, rfl⟩
theorem plX11_244 : zPl RX11 244 5 4 0 .int false := ⟨_, _, _, tyX5, rfl, by decide, uwX5, zin (zt1 (List.mem_of_getElem? (i := 186) (by decide +kernel))) rfl, rfl, tyX5_ok, nmX5, rfl, by decide +kernel, fun _ => by contradiction⟩
theorem flX11_250 : zFl RX11 250 5 5 0 := ⟨_, _, _, rfl, by decide, uwX5, zin (zt1 (List.mem_of_getElem? (i := 188) (by decide +kernel))) rfl, rfl⟩
theorem plX11_250 : zPl RX11 250 5 5 0 .int false := ⟨_, _, _, tyX5, rfl, by decide, uwX5, zin (zt1 (List.mem_of_getElem? (i := 188) (by decide +kernel))) rfl, rfl, tyX5_ok, nmX5, rfl, by decide +kernel, fun _ => by contradiction⟩
theorem flX11_253 : zFl RX11 253 5 0 2 := ⟨_, _, _, rfl, by decide, uwX5, zin (zt1 (List.mem_of_getElem? (i := 179) (by decide +kernel))) rfl, rfl⟩
theorem flX11_256 : zFl RX11 256 5 1 2 := ⟨_, _, _, rfl, by decide, uwX5, zin (zt1 (List.mem_of_getElem? (i := 181) (by decide +kernel))) rfl, rfl⟩
theorem flX11_275 : zFl RX11 275 0 0 2 := ⟨_, _, _, rfl, by decide, uwX0, zin (zt1 (List.mem_of_getElem? (i := 218) (by decide +kernel))) rfl, rfl⟩
theorem flX11_278 : zFl RX11 278 0 1 2 := ⟨_, _, _, rfl, by decide, uwX0, zin (zt1 (List.mem_of_getElem? (i := 220) (by decide +kernel))) rfl, rfl⟩
theorem flX11_281 : zFl RX11 281 0 2 0 := ⟨_, _, _, rfl, by decide, uwX0, zin (zt1 (List.mem_of_getElem? (i := 221) (by decide +kernel))) rfl, rfl⟩
theorem plX11_281 : zPl RX11 281 0 2 0 .int false := ⟨_, _, _, tyX0, rfl, by decide, uwX0, zin (zt1 (List.mem_of_getElem? (i := 221) (by decide +kernel))) rfl, rfl, tyX0_ok, nmX0, rfl, by decide +kernel, fun _ => by contradiction⟩
theorem flX11_284 : zFl RX11 284 0 3 0 := ⟨_, _, _, rfl, by decide, uwX0, zin (zt1 (List.mem_of_getElem? (i := 222) (by decide +kernel))) rfl, rfl⟩
theorem plX11_284 : zPl RX11 284 0 3 0 .boolean false := ⟨_, _, _, tyX0, rfl, by decide, uwX0, zin (zt1 (List.mem_of_getElem? (i := 222) (by decide +kernel))) rfl, rfl, tyX0_ok, nmX0, rfl, by decide +kernel, fun _ => by contradiction⟩
theorem flX11_288 : zFl RX11 288 1 0 1 := ⟨_, _, _, rfl, by decide, uwX1, zin (zt1 (List.mem_of_getElem? (i := 167) (by decide +kernel))) rfl, rfl⟩
theorem plX11_288 : zPl RX11 288 1 0 1 .long false := ⟨_, _, _, tyX1, rfl, by decide, uwX1, zin (zt1 (List.mem_of_getElem? (i := 167) (by decide +kernel))) rfl, rfl, tyX1_ok, nmX1, rfl, by decide +kernel, fun _ => by contradiction⟩
theorem flX11_292 : zFl RX11 292 1 1 1 := ⟨_, _, _, rfl, by decide, uwX1, zin (zt1 (List.mem_of_getElem? (i := 172) (by decide +kernel))) rfl, rfl⟩
theorem plX11_292 : zPl RX11 292 1 1 1 .long false := ⟨_, _, _, tyX1, rfl, by decide, uwX1, zin (zt1 (List.mem_of_getElem? (i := 172) (by decide +kernel))) rfl, rfl, tyX1_ok, nmX1, rfl, by decide +kernel, fun _ => by contradiction⟩
theorem flX11_302 : zFl RX11 302 6 0 0 := ⟨_, _, _, rfl, by decide, uwX6, zin (zt2 (List.mem_of_getElem? (i := 41) (by decide +kernel))) rfl, rfl⟩
theorem plX11_302 : zPl RX11 302 6 0 0 .boolean false := ⟨_, _, _, tyX6, rfl, by decide, uwX6, zin (zt2 (List.mem_of_getElem? (i := 41) (by decide +kernel))) rfl, rfl, tyX6_ok, nmX6, rfl, by decide +kernel, fun _ => by contradiction⟩
theorem flX11_305 : zFl RX11 305 6 1 0 := ⟨_, _, _, rfl, by decide, uwX6, zin (zt2 (List.mem_of_getElem? (i := 43) (by decide +kernel))) rfl, rfl⟩
theorem plX11_305 : zPl RX11 305 6 1 0 .int false := ⟨_, _, _, tyX6, rfl, by decide, uwX6, zin (zt2 (List.mem_of_getElem? (i := 43) (by decide +kernel))) rfl, rfl, tyX6_ok, nmX6, rfl, by decide +kernel, fun _ => by contradiction⟩
theorem flX11_467 : zFl RX11 467 9 0 0 := ⟨_, _, _, rfl, by decide, uwX9, zin (zt1 (List.mem_of_getElem? (i := 31) (by decide +kernel))) rfl, rfl⟩
theorem plX11_467 : zPl RX11 467 9 0 0 .int false := ⟨_, _, _, tyX9, rfl, by decide, uwX9, zin (zt1 (List.mem_of_getElem? (i := 31) (by decide +kernel))) rfl, rfl, tyX9_ok, nmX9, rfl, by decide +kernel, fun _ => by contradiction⟩
theorem flX2_9 : zFl RX2 9 2 3 2 := ⟨_, _, _, rfl, by decide, uwX2, zin (zt1 (List.mem_of_getElem? (i := 98) (by decide +kernel))) rfl, rfl⟩
theorem plX2_9 : zPl RX2 9 2 3 2 (.array .int) true := ⟨_, _, _, tyX2, rfl, by decide, uwX2, zin (zt1 (List.mem_of_getElem? (i := 98) (by decide +kernel))) rfl, rfl, tyX2_ok, nmX2, rfl, by decide +kernel, fun _ => rfl⟩
theorem flX2_15 : zFl RX2 15 2 4 2 := ⟨_, _, _, rfl, by decide, uwX2, zin (zt1 (List.mem_of_getElem? (i := 99) (by decide +kernel))) rfl, rfl⟩
theorem plX2_15 : zPl RX2 15 2 4 2 (.array .int) true := ⟨_, _, _, tyX2, rfl, by decide, uwX2, zin (zt1 (List.mem_of_getElem? (i := 99) (by decide +kernel))) rfl, rfl, tyX2_ok, nmX2, rfl, by decide +kernel, fun _ => rfl⟩
theorem flX2_18 : zFl RX2 18 2 5 2 := ⟨_, _, _, rfl, by decide, uwX2, zin (zt1 (List.mem_of_getElem? (i := 101) (by decide +kernel))) rfl, rfl⟩
theorem plX2_18 : zPl RX2 18 2 5 2 (.array .int) true := ⟨_, _, _, tyX2, rfl, by decide, uwX2, zin (zt1 (List.mem_of_getElem? (i := 101) (by decide +kernel))) rfl, rfl, tyX2_ok, nmX2, rfl, by decide +kernel, fun _ => rfl⟩
theorem flX2_21 : zFl RX2 21 2 6 2 := ⟨_, _, _, rfl, by decide, uwX2, zin (zt1 (List.mem_of_getElem? (i := 102) (by decide +kernel))) rfl, rfl⟩
theorem plX2_21 : zPl RX2 21 2 6 2 (.array .int) true := ⟨_, _, _, tyX2, rfl, by decide, uwX2, zin (zt1 (List.mem_of_getElem? (i := 102) (by decide +kernel))) rfl, rfl, tyX2_ok, nmX2, rfl, by decide +kernel, fun _ => rfl⟩
theorem flX2_24 : zFl RX2 24 2 7 2 := ⟨_, _, _, rfl, by decide, uwX2, zin (zt1 (List.mem_of_getElem? (i := 104) (by decide +kernel))) rfl, rfl⟩
theorem plX2_24 : zPl RX2 24 2 7 2 (.array .int) true := ⟨_, _, _, tyX2, rfl, by decide, uwX2, zin (zt1 (List.mem_of_getElem? (i := 104) (by decide +kernel))) rfl, rfl, tyX2_ok, nmX2, rfl, by decide +kernel, fun _ => rfl⟩
theorem flX2_27 : zFl RX2 27 2 8 2 := ⟨_, _, _, rfl, by decide, uwX2, zin (zt1 (List.mem_of_getElem? (i := 106) (by decide +kernel))) rfl, rfl⟩
theorem plX2_27 : zPl RX2 27 2 8 2 (.array .int) true := ⟨_, _, _, tyX2, rfl, by decide, uwX2, zin (zt1 (List.mem_of_getElem? (i := 106) (by decide +kernel))) rfl, rfl, tyX2_ok, nmX2, rfl, by decide +kernel, fun _ => rfl⟩
theorem flX2_30 : zFl RX2 30 2 9 2 := ⟨_, _, _, rfl, by decide, uwX2, zin (zt1 (List.mem_of_getElem? (i := 107) (by decide +kernel))) rfl, rfl⟩
theorem plX2_30 : zPl RX2 30 2 9 2 (.array .int) true := ⟨_, _, _, tyX2, rfl, by decide, uwX2, zin (zt1 (List.mem_of_getElem? (i := 107) (by decide +kernel))) rfl, rfl, tyX2_ok, nmX2, rfl, by decide +kernel, fun _ => rfl⟩
theorem flX2_33 : zFl RX2 33 2 10 2 := ⟨_, _, _, rfl, by decide, uwX2, zin (zt1 (List.mem_of_getElem? (i := 109) (by decide +kernel))) rfl, rfl⟩
theorem plX2_33 : zPl RX2 33 2 10 2 (.array .int) true := ⟨_, _, _, tyX2, rfl, by decide, uwX2, zin (zt1 (List.mem_of_getElem? (i := 109) (by decide +kernel))) rfl, rfl, tyX2_ok, nmX2, rfl, by decide +kernel, fun _ => rfl⟩
theorem flX2_36 : zFl RX2 36 2 0 0 := ⟨_, _, _, rfl, by decide, uwX2, zin (zt1 (List.mem_of_getElem? (i := 88) (by decide +kernel))) rfl, rfl⟩
theorem plX2_36 : zPl RX2 36 2 0 0 .int false := ⟨_, _, _, tyX2, rfl, by decide, uwX2, zin (zt1 (List.mem_of_getElem? (i := 88) (by decide +kernel))) rfl, rfl, tyX2_ok, nmX2, rfl, by decide +kernel, fun _ => rfl⟩
theorem flX2_40 : zFl RX2 40 2 1 0 := ⟨_, _, _, rfl, by decide, uwX2, zin (zt1 (List.mem_of_getElem? (i := 90) (by decide +kernel))) rfl, rfl⟩
theorem plX2_40 : zPl RX2 40 2 1 0 .int false := ⟨_, _, _, tyX2, rfl, by decide, uwX2, zin (zt1 (List.mem_of_getElem? (i := 90) (by decide +kernel))) rfl, rfl, tyX2_ok, nmX2, rfl, by decide +kernel, fun _ => rfl⟩
theorem flX2_43 : zFl RX2 43 2 2 0 := ⟨_, _, _, rfl, by decide, uwX2, zin (zt1 (List.mem_of_getElem? (i := 94) (by decide +kernel))) rfl, rfl⟩
theorem plX2_43 : zPl RX2 43 2 2 0 .int false := ⟨_, _, _, tyX2, rfl, by decide, uwX2, zin (zt1 (List.mem_of_getElem? (i := 94) (by decide +kernel))) rfl, rfl, tyX2_ok, nmX2, rfl, by decide +kernel, fun _ => rfl⟩
theorem slX2_73 : Cond.fieldLink RX2 73 "HandBeasts$Hands" "STEP_X" "[I" ∈ zTB := zin (zt3 (List.mem_of_getElem? (i := 38) (by decide +kernel))) rfl
theorem slX2_76 : Cond.fieldLink RX2 76 "HandBeasts$Hands" "STEP_Y" "[I" ∈ zTB := zin (zt3 (List.mem_of_getElem? (i := 40) (by decide +kernel))) rfl
theorem flX3_9 : zFl RX3 9 3 0 0 := ⟨_, _, _, rfl, by decide, uwX3, zin (zt1 (List.mem_of_getElem? (i := 140) (by decide +kernel))) rfl, rfl⟩
theorem plX3_9 : zPl RX3 9 3 0 0 .int false := ⟨_, _, _, tyX3, rfl, by decide, uwX3, zin (zt1 (List.mem_of_getElem? (i := 140) (by decide +kernel))) rfl, rfl, tyX3_ok, nmX3, rfl, by decide +kernel, fun _ => rfl⟩
theorem flX3_15 : zFl RX3 15 3 1 0 := ⟨_, _, _, rfl, by decide, uwX3, zin (zt1 (List.mem_of_getElem? (i := 141) (by decide +kernel))) rfl, rfl⟩
theorem plX3_15 : zPl RX3 15 3 1 0 .int false := ⟨_, _, _, tyX3, rfl, by decide, uwX3, zin (zt1 (List.mem_of_getElem? (i := 141) (by decide +kernel))) rfl, rfl, tyX3_ok, nmX3, rfl, by decide +kernel, fun _ => rfl⟩
theorem flX3_18 : zFl RX3 18 3 2 0 := ⟨_, _, _, rfl, by decide, uwX3, zin (zt1 (List.mem_of_getElem? (i := 142) (by decide +kernel))) rfl, rfl⟩
theorem plX3_18 : zPl RX3 18 3 2 0 .int false := ⟨_, _, _, tyX3, rfl, by decide, uwX3, zin (zt1 (List.mem_of_getElem? (i := 142) (by decide +kernel))) rfl, rfl, tyX3_ok, nmX3, rfl, by decide +kernel, fun _ => rfl⟩
theorem flX4_11 : zFl RX4 11 4 1 2 := ⟨_, _, _, rfl, by decide, uwX4, zin (zt2 (List.mem_of_getElem? (i := 0) (by decide +kernel))) rfl, rfl⟩
theorem plX4_11 : zPl RX4 11 4 1 2 (.array (.array .int)) true := ⟨_, _, _, tyX4, rfl, by decide, uwX4, zin (zt2 (List.mem_of_getElem? (i := 0) (by decide +kernel))) rfl, rfl, tyX4_ok, nmX4, rfl, by decide +kernel, fun _ => rfl⟩
theorem flX4_16 : zFl RX4 16 4 3 2 := ⟨_, _, _, rfl, by decide, uwX4, zin (zt2 (List.mem_of_getElem? (i := 2) (by decide +kernel))) rfl, rfl⟩
theorem plX4_16 : zPl RX4 16 4 3 2 (.array .int) true := ⟨_, _, _, tyX4, rfl, by decide, uwX4, zin (zt2 (List.mem_of_getElem? (i := 2) (by decide +kernel))) rfl, rfl, tyX4_ok, nmX4, rfl, by decide +kernel, fun _ => rfl⟩
theorem flX4_20 : zFl RX4 20 4 4 2 := ⟨_, _, _, rfl, by decide, uwX4, zin (zt2 (List.mem_of_getElem? (i := 3) (by decide +kernel))) rfl, rfl⟩
theorem plX4_20 : zPl RX4 20 4 4 2 (.array .int) true := ⟨_, _, _, tyX4, rfl, by decide, uwX4, zin (zt2 (List.mem_of_getElem? (i := 3) (by decide +kernel))) rfl, rfl, tyX4_ok, nmX4, rfl, by decide +kernel, fun _ => rfl⟩
theorem flX4_23 : zFl RX4 23 4 5 2 := ⟨_, _, _, rfl, by decide, uwX4, zin (zt2 (List.mem_of_getElem? (i := 4) (by decide +kernel))) rfl, rfl⟩
theorem plX4_23 : zPl RX4 23 4 5 2 (.array .int) true := ⟨_, _, _, tyX4, rfl, by decide, uwX4, zin (zt2 (List.mem_of_getElem? (i := 4) (by decide +kernel))) rfl, rfl, tyX4_ok, nmX4, rfl, by decide +kernel, fun _ => rfl⟩
theorem flX4_26 : zFl RX4 26 4 6 2 := ⟨_, _, _, rfl, by decide, uwX4, zin (zt2 (List.mem_of_getElem? (i := 5) (by decide +kernel))) rfl, rfl⟩
theorem plX4_26 : zPl RX4 26 4 6 2 (.array .int) true := ⟨_, _, _, tyX4, rfl, by decide, uwX4, zin (zt2 (List.mem_of_getElem? (i := 5) (by decide +kernel))) rfl, rfl, tyX4_ok, nmX4, rfl, by decide +kernel, fun _ => rfl⟩
theorem flX4_29 : zFl RX4 29 4 7 2 := ⟨_, _, _, rfl, by decide, uwX4, zin (zt2 (List.mem_of_getElem? (i := 6) (by decide +kernel))) rfl, rfl⟩
theorem plX4_29 : zPl RX4 29 4 7 2 (.array .int) true := ⟨_, _, _, tyX4, rfl, by decide, uwX4, zin (zt2 (List.mem_of_getElem? (i := 6) (by decide +kernel))) rfl, rfl, tyX4_ok, nmX4, rfl, by decide +kernel, fun _ => rfl⟩
theorem flX4_32 : zFl RX4 32 4 8 2 := ⟨_, _, _, rfl, by decide, uwX4, zin (zt2 (List.mem_of_getElem? (i := 7) (by decide +kernel))) rfl, rfl⟩
theorem plX4_32 : zPl RX4 32 4 8 2 (.array .int) true := ⟨_, _, _, tyX4, rfl, by decide, uwX4, zin (zt2 (List.mem_of_getElem? (i := 7) (by decide +kernel))) rfl, rfl, tyX4_ok, nmX4, rfl, by decide +kernel, fun _ => rfl⟩
theorem flX4_35 : zFl RX4 35 4 10 2 := ⟨_, _, _, rfl, by decide, uwX4, zin (zt2 (List.mem_of_getElem? (i := 8) (by decide +kernel))) rfl, rfl⟩
theorem plX4_35 : zPl RX4 35 4 10 2 (.array .int) true := ⟨_, _, _, tyX4, rfl, by decide, uwX4, zin (zt2 (List.mem_of_getElem? (i := 8) (by decide +kernel))) rfl, rfl, tyX4_ok, nmX4, rfl, by decide +kernel, fun _ => rfl⟩
theorem flX4_42 : zFl RX4 42 4 2 0 := ⟨_, _, _, rfl, by decide, uwX4, zin (zt2 (List.mem_of_getElem? (i := 1) (by decide +kernel))) rfl, rfl⟩
theorem plX4_42 : zPl RX4 42 4 2 0 .int false := ⟨_, _, _, tyX4, rfl, by decide, uwX4, zin (zt2 (List.mem_of_getElem? (i := 1) (by decide +kernel))) rfl, rfl, tyX4_ok, nmX4, rfl, by decide +kernel, fun _ => rfl⟩
theorem flX5_9 : zFl RX5 9 5 0 2 := ⟨_, _, _, rfl, by decide, uwX5, zin (zt1 (List.mem_of_getElem? (i := 178) (by decide +kernel))) rfl, rfl⟩
theorem plX5_9 : zPl RX5 9 5 0 2 (.array .int) true := ⟨_, _, _, tyX5, rfl, by decide, uwX5, zin (zt1 (List.mem_of_getElem? (i := 178) (by decide +kernel))) rfl, rfl, tyX5_ok, nmX5, rfl, by decide +kernel, fun _ => rfl⟩
theorem flX5_18 : zFl RX5 18 5 1 2 := ⟨_, _, _, rfl, by decide, uwX5, zin (zt1 (List.mem_of_getElem? (i := 180) (by decide +kernel))) rfl, rfl⟩
theorem plX5_18 : zPl RX5 18 5 1 2 (.object "HandBeasts$Cells") true := ⟨_, _, _, tyX5, rfl, by decide, uwX5, zin (zt1 (List.mem_of_getElem? (i := 180) (by decide +kernel))) rfl, rfl, tyX5_ok, nmX5, rfl, by decide +kernel, fun _ => rfl⟩
theorem flX5_22 : zFl RX5 22 5 2 2 := ⟨_, _, _, rfl, by decide, uwX5, zin (zt1 (List.mem_of_getElem? (i := 182) (by decide +kernel))) rfl, rfl⟩
theorem plX5_22 : zPl RX5 22 5 2 2 (.object "HandBeasts$Cells") true := ⟨_, _, _, tyX5, rfl, by decide, uwX5, zin (zt1 (List.mem_of_getElem? (i := 182) (by decide +kernel))) rfl, rfl, tyX5_ok, nmX5, rfl, by decide +kernel, fun _ => rfl⟩
theorem flX5_31 : zFl RX5 31 5 4 0 := ⟨_, _, _, rfl, by decide, uwX5, zin (zt1 (List.mem_of_getElem? (i := 185) (by decide +kernel))) rfl, rfl⟩
theorem plX5_31 : zPl RX5 31 5 4 0 .int false := ⟨_, _, _, tyX5, rfl, by decide, uwX5, zin (zt1 (List.mem_of_getElem? (i := 185) (by decide +kernel))) rfl, rfl, tyX5_ok, nmX5, rfl, by decide +kernel, fun _ => rfl⟩
theorem flX5_42 : zFl RX5 42 5 5 0 := ⟨_, _, _, rfl, by decide, uwX5, zin (zt1 (List.mem_of_getElem? (i := 187) (by decide +kernel))) rfl, rfl⟩
theorem plX5_42 : zPl RX5 42 5 5 0 .int false := ⟨_, _, _, tyX5, rfl, by decide, uwX5, zin (zt1 (List.mem_of_getElem? (i := 187) (by decide +kernel))) rfl, rfl, tyX5_ok, nmX5, rfl, by decide +kernel, fun _ => rfl⟩
theorem flX5_51 : zFl RX5 51 5 7 0 := ⟨_, _, _, rfl, by decide, uwX5, zin (zt1 (List.mem_of_getElem? (i := 190) (by decide +kernel))) rfl, rfl⟩
theorem plX5_51 : zPl RX5 51 5 7 0 .int false := ⟨_, _, _, tyX5, rfl, by decide, uwX5, zin (zt1 (List.mem_of_getElem? (i := 190) (by decide +kernel))) rfl, rfl, tyX5_ok, nmX5, rfl, by decide +kernel, fun _ => rfl⟩
theorem flX5_60 : zFl RX5 60 5 6 0 := ⟨_, _, _, rfl, by decide, uwX5, zin (zt1 (List.mem_of_getElem? (i := 189) (by decide +kernel))) rfl, rfl⟩
theorem plX5_60 : zPl RX5 60 5 6 0 .int false := ⟨_, _, _, tyX5, rfl, by decide, uwX5, zin (zt1 (List.mem_of_getElem? (i := 189) (by decide +kernel))) rfl, rfl, tyX5_ok, nmX5, rfl, by decide +kernel, fun _ => rfl⟩
theorem flX5_63 : zFl RX5 63 5 3 0 := ⟨_, _, _, rfl, by decide, uwX5, zin (zt1 (List.mem_of_getElem? (i := 183) (by decide +kernel))) rfl, rfl⟩
theorem plX5_63 : zPl RX5 63 5 3 0 .int false := ⟨_, _, _, tyX5, rfl, by decide, uwX5, zin (zt1 (List.mem_of_getElem? (i := 183) (by decide +kernel))) rfl, rfl, tyX5_ok, nmX5, rfl, by decide +kernel, fun _ => rfl⟩
theorem flX5_69 : zFl RX5 69 1 0 1 := ⟨_, _, _, rfl, by decide, uwX1, zin (zt1 (List.mem_of_getElem? (i := 166) (by decide +kernel))) rfl, rfl⟩
theorem plX5_69 : zPl RX5 69 1 0 1 .long false := ⟨_, _, _, tyX1, rfl, by decide, uwX1, zin (zt1 (List.mem_of_getElem? (i := 166) (by decide +kernel))) rfl, rfl, tyX1_ok, nmX1, rfl, by decide +kernel, fun _ => by contradiction⟩
theorem flX5_73 : zFl RX5 73 1 1 1 := ⟨_, _, _, rfl, by decide, uwX1, zin (zt1 (List.mem_of_getElem? (i := 171) (by decide +kernel))) rfl, rfl⟩
theorem plX5_73 : zPl RX5 73 1 1 1 .long false := ⟨_, _, _, tyX1, rfl, by decide, uwX1, zin (zt1 (List.mem_of_getElem? (i := 171) (by decide +kernel))) rfl, rfl, tyX1_ok, nmX1, rfl, by decide +kernel, fun _ => by contradiction⟩
theorem flX6_9 : zFl RX6 9 6 1 0 := ⟨_, _, _, rfl, by decide, uwX6, zin (zt2 (List.mem_of_getElem? (i := 42) (by decide +kernel))) rfl, rfl⟩
theorem plX6_9 : zPl RX6 9 6 1 0 .int false := ⟨_, _, _, tyX6, rfl, by decide, uwX6, zin (zt2 (List.mem_of_getElem? (i := 42) (by decide +kernel))) rfl, rfl, tyX6_ok, nmX6, rfl, by decide +kernel, fun _ => rfl⟩
theorem flX6_15 : zFl RX6 15 6 2 2 := ⟨_, _, _, rfl, by decide, uwX6, zin (zt2 (List.mem_of_getElem? (i := 44) (by decide +kernel))) rfl, rfl⟩
theorem plX6_15 : zPl RX6 15 6 2 2 (.array .int) true := ⟨_, _, _, tyX6, rfl, by decide, uwX6, zin (zt2 (List.mem_of_getElem? (i := 44) (by decide +kernel))) rfl, rfl, tyX6_ok, nmX6, rfl, by decide +kernel, fun _ => rfl⟩
theorem flX6_19 : zFl RX6 19 6 3 2 := ⟨_, _, _, rfl, by decide, uwX6, zin (zt2 (List.mem_of_getElem? (i := 46) (by decide +kernel))) rfl, rfl⟩
theorem plX6_19 : zPl RX6 19 6 3 2 (.array .int) true := ⟨_, _, _, tyX6, rfl, by decide, uwX6, zin (zt2 (List.mem_of_getElem? (i := 46) (by decide +kernel))) rfl, rfl, tyX6_ok, nmX6, rfl, by decide +kernel, fun _ => rfl⟩
theorem flX6_22 : zFl RX6 22 6 4 2 := ⟨_, _, _, rfl, by decide, uwX6, zin (zt2 (List.mem_of_getElem? (i := 48) (by decide +kernel))) rfl, rfl⟩
theorem plX6_22 : zPl RX6 22 6 4 2 (.array .byte) true := ⟨_, _, _, tyX6, rfl, by decide, uwX6, zin (zt2 (List.mem_of_getElem? (i := 48) (by decide +kernel))) rfl, rfl, tyX6_ok, nmX6, rfl, by decide +kernel, fun _ => rfl⟩
theorem flX6_26 : zFl RX6 26 6 5 2 := ⟨_, _, _, rfl, by decide, uwX6, zin (zt2 (List.mem_of_getElem? (i := 49) (by decide +kernel))) rfl, rfl⟩
theorem plX6_26 : zPl RX6 26 6 5 2 (.array .long) true := ⟨_, _, _, tyX6, rfl, by decide, uwX6, zin (zt2 (List.mem_of_getElem? (i := 49) (by decide +kernel))) rfl, rfl, tyX6_ok, nmX6, rfl, by decide +kernel, fun _ => rfl⟩
theorem flX6_30 : zFl RX6 30 6 6 2 := ⟨_, _, _, rfl, by decide, uwX6, zin (zt2 (List.mem_of_getElem? (i := 50) (by decide +kernel))) rfl, rfl⟩
theorem plX6_30 : zPl RX6 30 6 6 2 (.array .long) true := ⟨_, _, _, tyX6, rfl, by decide, uwX6, zin (zt2 (List.mem_of_getElem? (i := 50) (by decide +kernel))) rfl, rfl, tyX6_ok, nmX6, rfl, by decide +kernel, fun _ => rfl⟩
theorem flX6_33 : zFl RX6 33 6 7 2 := ⟨_, _, _, rfl, by decide, uwX6, zin (zt2 (List.mem_of_getElem? (i := 51) (by decide +kernel))) rfl, rfl⟩
theorem plX6_33 : zPl RX6 33 6 7 2 (.array .long) true := ⟨_, _, _, tyX6, rfl, by decide, uwX6, zin (zt2 (List.mem_of_getElem? (i := 51) (by decide +kernel))) rfl, rfl, tyX6_ok, nmX6, rfl, by decide +kernel, fun _ => rfl⟩
theorem flX6_36 : zFl RX6 36 6 8 2 := ⟨_, _, _, rfl, by decide, uwX6, zin (zt2 (List.mem_of_getElem? (i := 52) (by decide +kernel))) rfl, rfl⟩
theorem plX6_36 : zPl RX6 36 6 8 2 (.array .long) true := ⟨_, _, _, tyX6, rfl, by decide, uwX6, zin (zt2 (List.mem_of_getElem? (i := 52) (by decide +kernel))) rfl, rfl, tyX6_ok, nmX6, rfl, by decide +kernel, fun _ => rfl⟩
theorem flX6_39 : zFl RX6 39 6 9 2 := ⟨_, _, _, rfl, by decide, uwX6, zin (zt2 (List.mem_of_getElem? (i := 53) (by decide +kernel))) rfl, rfl⟩
theorem plX6_39 : zPl RX6 39 6 9 2 (.array .int) true := ⟨_, _, _, tyX6, rfl, by decide, uwX6, zin (zt2 (List.mem_of_getElem? (i := 53) (by decide +kernel))) rfl, rfl, tyX6_ok, nmX6, rfl, by decide +kernel, fun _ => rfl⟩
theorem flX6_42 : zFl RX6 42 6 10 2 := ⟨_, _, _, rfl, by decide, uwX6, zin (zt2 (List.mem_of_getElem? (i := 54) (by decide +kernel))) rfl, rfl⟩
theorem plX6_42 : zPl RX6 42 6 10 2 (.array .byte) true := ⟨_, _, _, tyX6, rfl, by decide, uwX6, zin (zt2 (List.mem_of_getElem? (i := 54) (by decide +kernel))) rfl, rfl, tyX6_ok, nmX6, rfl, by decide +kernel, fun _ => rfl⟩
theorem flX6_45 : zFl RX6 45 6 11 2 := ⟨_, _, _, rfl, by decide, uwX6, zin (zt2 (List.mem_of_getElem? (i := 55) (by decide +kernel))) rfl, rfl⟩
theorem plX6_45 : zPl RX6 45 6 11 2 (.array .long) true := ⟨_, _, _, tyX6, rfl, by decide, uwX6, zin (zt2 (List.mem_of_getElem? (i := 55) (by decide +kernel))) rfl, rfl, tyX6_ok, nmX6, rfl, by decide +kernel, fun _ => rfl⟩
theorem flX6_48 : zFl RX6 48 6 12 2 := ⟨_, _, _, rfl, by decide, uwX6, zin (zt2 (List.mem_of_getElem? (i := 56) (by decide +kernel))) rfl, rfl⟩
theorem plX6_48 : zPl RX6 48 6 12 2 (.array .long) true := ⟨_, _, _, tyX6, rfl, by decide, uwX6, zin (zt2 (List.mem_of_getElem? (i := 56) (by decide +kernel))) rfl, rfl, tyX6_ok, nmX6, rfl, by decide +kernel, fun _ => rfl⟩
theorem flX6_51 : zFl RX6 51 6 13 2 := ⟨_, _, _, rfl, by decide, uwX6, zin (zt2 (List.mem_of_getElem? (i := 57) (by decide +kernel))) rfl, rfl⟩
theorem plX6_51 : zPl RX6 51 6 13 2 (.array .long) true := ⟨_, _, _, tyX6, rfl, by decide, uwX6, zin (zt2 (List.mem_of_getElem? (i := 57) (by decide +kernel))) rfl, rfl, tyX6_ok, nmX6, rfl, by decide +kernel, fun _ => rfl⟩
theorem flX6_54 : zFl RX6 54 6 14 2 := ⟨_, _, _, rfl, by decide, uwX6, zin (zt2 (List.mem_of_getElem? (i := 58) (by decide +kernel))) rfl, rfl⟩
theorem plX6_54 : zPl RX6 54 6 14 2 (.array .long) true := ⟨_, _, _, tyX6, rfl, by decide, uwX6, zin (zt2 (List.mem_of_getElem? (i := 58) (by decide +kernel))) rfl, rfl, tyX6_ok, nmX6, rfl, by decide +kernel, fun _ => rfl⟩
theorem flX6_57 : zFl RX6 57 6 15 2 := ⟨_, _, _, rfl, by decide, uwX6, zin (zt2 (List.mem_of_getElem? (i := 59) (by decide +kernel))) rfl, rfl⟩
theorem plX6_57 : zPl RX6 57 6 15 2 (.array .int) true := ⟨_, _, _, tyX6, rfl, by decide, uwX6, zin (zt2 (List.mem_of_getElem? (i := 59) (by decide +kernel))) rfl, rfl, tyX6_ok, nmX6, rfl, by decide +kernel, fun _ => rfl⟩
theorem flX6_63 : zFl RX6 63 6 16 2 := ⟨_, _, _, rfl, by decide, uwX6, zin (zt2 (List.mem_of_getElem? (i := 60) (by decide +kernel))) rfl, rfl⟩
theorem plX6_63 : zPl RX6 63 6 16 2 (.object "HandBeasts$Cells") true := ⟨_, _, _, tyX6, rfl, by decide, uwX6, zin (zt2 (List.mem_of_getElem? (i := 60) (by decide +kernel))) rfl, rfl, tyX6_ok, nmX6, rfl, by decide +kernel, fun _ => rfl⟩
theorem flX6_67 : zFl RX6 67 2 2 0 := ⟨_, _, _, rfl, by decide, uwX2, zin (zt1 (List.mem_of_getElem? (i := 93) (by decide +kernel))) rfl, rfl⟩
theorem plX6_67 : zPl RX6 67 2 2 0 .int false := ⟨_, _, _, tyX2, rfl, by decide, uwX2, zin (zt1 (List.mem_of_getElem? (i := 93) (by decide +kernel))) rfl, rfl, tyX2_ok, nmX2, rfl, by decide +kernel, fun _ => by contradiction⟩
theorem flX6_75 : zFl RX6 75 2 1 0 := ⟨_, _, _, rfl, by decide, uwX2, zin (zt1 (List.mem_of_getElem? (i := 91) (by decide +kernel))) rfl, rfl⟩
theorem plX6_75 : zPl RX6 75 2 1 0 .int false := ⟨_, _, _, tyX2, rfl, by decide, uwX2, zin (zt1 (List.mem_of_getElem? (i := 91) (by decide +kernel))) rfl, rfl, tyX2_ok, nmX2, rfl, by decide +kernel, fun _ => by contradiction⟩
theorem flX6_82 : zFl RX6 82 6 0 0 := ⟨_, _, _, rfl, by decide, uwX6, zin (zt2 (List.mem_of_getElem? (i := 40) (by decide +kernel))) rfl, rfl⟩
theorem plX6_82 : zPl RX6 82 6 0 0 .boolean false := ⟨_, _, _, tyX6, rfl, by decide, uwX6, zin (zt2 (List.mem_of_getElem? (i := 40) (by decide +kernel))) rfl, rfl, tyX6_ok, nmX6, rfl, by decide +kernel, fun _ => rfl⟩
theorem flX6_89 : zFl RX6 89 2 7 2 := ⟨_, _, _, rfl, by decide, uwX2, zin (zt1 (List.mem_of_getElem? (i := 105) (by decide +kernel))) rfl, rfl⟩
theorem flX6_92 : zFl RX6 92 2 6 2 := ⟨_, _, _, rfl, by decide, uwX2, zin (zt1 (List.mem_of_getElem? (i := 103) (by decide +kernel))) rfl, rfl⟩
theorem flX6_112 : zFl RX6 112 1 0 1 := ⟨_, _, _, rfl, by decide, uwX1, zin (zt1 (List.mem_of_getElem? (i := 165) (by decide +kernel))) rfl, rfl⟩
theorem plX6_112 : zPl RX6 112 1 0 1 .long false := ⟨_, _, _, tyX1, rfl, by decide, uwX1, zin (zt1 (List.mem_of_getElem? (i := 165) (by decide +kernel))) rfl, rfl, tyX1_ok, nmX1, rfl, by decide +kernel, fun _ => by contradiction⟩
theorem flX6_115 : zFl RX6 115 1 1 1 := ⟨_, _, _, rfl, by decide, uwX1, zin (zt1 (List.mem_of_getElem? (i := 170) (by decide +kernel))) rfl, rfl⟩
theorem plX6_115 : zPl RX6 115 1 1 1 .long false := ⟨_, _, _, tyX1, rfl, by decide, uwX1, zin (zt1 (List.mem_of_getElem? (i := 170) (by decide +kernel))) rfl, rfl, tyX1_ok, nmX1, rfl, by decide +kernel, fun _ => by contradiction⟩
theorem flX6_121 : zFl RX6 121 2 4 2 := ⟨_, _, _, rfl, by decide, uwX2, zin (zt1 (List.mem_of_getElem? (i := 100) (by decide +kernel))) rfl, rfl⟩
theorem flX6_146 : zFl RX6 146 2 9 2 := ⟨_, _, _, rfl, by decide, uwX2, zin (zt1 (List.mem_of_getElem? (i := 108) (by decide +kernel))) rfl, rfl⟩
theorem flX7_9 : zFl RX7 9 7 0 2 := ⟨_, _, _, rfl, by decide, uwX7, zin (zt1 (List.mem_of_getElem? (i := 72) (by decide +kernel))) rfl, rfl⟩
theorem plX7_9 : zPl RX7 9 7 0 2 (.object "HandBeasts$Row") false := ⟨_, _, _, tyX7, rfl, by decide, uwX7, zin (zt1 (List.mem_of_getElem? (i := 72) (by decide +kernel))) rfl, rfl, tyX7_ok, nmX7, rfl, by decide +kernel, fun _ => rfl⟩
theorem flX7_15 : zFl RX7 15 7 1 2 := ⟨_, _, _, rfl, by decide, uwX7, zin (zt1 (List.mem_of_getElem? (i := 73) (by decide +kernel))) rfl, rfl⟩
theorem plX7_15 : zPl RX7 15 7 1 2 (.object "HandBeasts$Hands") false := ⟨_, _, _, tyX7, rfl, by decide, uwX7, zin (zt1 (List.mem_of_getElem? (i := 73) (by decide +kernel))) rfl, rfl, tyX7_ok, nmX7, rfl, by decide +kernel, fun _ => rfl⟩
theorem flX7_19 : zFl RX7 19 7 2 0 := ⟨_, _, _, rfl, by decide, uwX7, zin (zt1 (List.mem_of_getElem? (i := 74) (by decide +kernel))) rfl, rfl⟩
theorem plX7_19 : zPl RX7 19 7 2 0 .int false := ⟨_, _, _, tyX7, rfl, by decide, uwX7, zin (zt1 (List.mem_of_getElem? (i := 74) (by decide +kernel))) rfl, rfl, tyX7_ok, nmX7, rfl, by decide +kernel, fun _ => rfl⟩
theorem flX7_28 : zFl RX7 28 8 0 0 := ⟨_, _, _, rfl, by decide, uwX8, zin (zt1 (List.mem_of_getElem? (i := 58) (by decide +kernel))) rfl, rfl⟩
theorem plX7_28 : zPl RX7 28 8 0 0 .int false := ⟨_, _, _, tyX8, rfl, by decide, uwX8, zin (zt1 (List.mem_of_getElem? (i := 58) (by decide +kernel))) rfl, rfl, tyX8_ok, nmX8, rfl, by decide +kernel, fun _ => by contradiction⟩
theorem flX7_47 : zFl RX7 47 2 0 0 := ⟨_, _, _, rfl, by decide, uwX2, zin (zt1 (List.mem_of_getElem? (i := 89) (by decide +kernel))) rfl, rfl⟩
theorem plX7_47 : zPl RX7 47 2 0 0 .int false := ⟨_, _, _, tyX2, rfl, by decide, uwX2, zin (zt1 (List.mem_of_getElem? (i := 89) (by decide +kernel))) rfl, rfl, tyX2_ok, nmX2, rfl, by decide +kernel, fun _ => by contradiction⟩
theorem flX7_58 : zFl RX7 58 2 1 0 := ⟨_, _, _, rfl, by decide, uwX2, zin (zt1 (List.mem_of_getElem? (i := 92) (by decide +kernel))) rfl, rfl⟩
theorem plX7_58 : zPl RX7 58 2 1 0 .int false := ⟨_, _, _, tyX2, rfl, by decide, uwX2, zin (zt1 (List.mem_of_getElem? (i := 92) (by decide +kernel))) rfl, rfl, tyX2_ok, nmX2, rfl, by decide +kernel, fun _ => by contradiction⟩
theorem flX7_67 : zFl RX7 67 2 2 0 := ⟨_, _, _, rfl, by decide, uwX2, zin (zt1 (List.mem_of_getElem? (i := 95) (by decide +kernel))) rfl, rfl⟩
theorem plX7_67 : zPl RX7 67 2 2 0 .int false := ⟨_, _, _, tyX2, rfl, by decide, uwX2, zin (zt1 (List.mem_of_getElem? (i := 95) (by decide +kernel))) rfl, rfl, tyX2_ok, nmX2, rfl, by decide +kernel, fun _ => by contradiction⟩
theorem flX8_11 : zFl RX8 11 8 0 0 := ⟨_, _, _, rfl, by decide, uwX8, zin (zt1 (List.mem_of_getElem? (i := 57) (by decide +kernel))) rfl, rfl⟩
theorem plX8_11 : zPl RX8 11 8 0 0 .int false := ⟨_, _, _, tyX8, rfl, by decide, uwX8, zin (zt1 (List.mem_of_getElem? (i := 57) (by decide +kernel))) rfl, rfl, tyX8_ok, nmX8, rfl, by decide +kernel, fun _ => rfl⟩
theorem flX8_21 : zFl RX8 21 8 1 2 := ⟨_, _, _, rfl, by decide, uwX8, zin (zt1 (List.mem_of_getElem? (i := 60) (by decide +kernel))) rfl, rfl⟩
theorem plX8_21 : zPl RX8 21 8 1 2 (.array .int) true := ⟨_, _, _, tyX8, rfl, by decide, uwX8, zin (zt1 (List.mem_of_getElem? (i := 60) (by decide +kernel))) rfl, rfl, tyX8_ok, nmX8, rfl, by decide +kernel, fun _ => rfl⟩
theorem flX9_9 : zFl RX9 9 9 2 1 := ⟨_, _, _, rfl, by decide, uwX9, zin (zt1 (List.mem_of_getElem? (i := 32) (by decide +kernel))) rfl, rfl⟩
theorem plX9_9 : zPl RX9 9 9 2 1 .long false := ⟨_, _, _, tyX9, rfl, by decide, uwX9, zin (zt1 (List.mem_of_getElem? (i := 32) (by decide +kernel))) rfl, rfl, tyX9_ok, nmX9, rfl, by decide +kernel, fun _ => rfl⟩
theorem flX9_15 : zFl RX9 15 9 4 2 := ⟨_, _, _, rfl, by decide, uwX9, zin (zt1 (List.mem_of_getElem? (i := 34) (by decide +kernel))) rfl, rfl⟩
theorem plX9_15 : zPl RX9 15 9 4 2 (.array .int) true := ⟨_, _, _, tyX9, rfl, by decide, uwX9, zin (zt1 (List.mem_of_getElem? (i := 34) (by decide +kernel))) rfl, rfl, tyX9_ok, nmX9, rfl, by decide +kernel, fun _ => rfl⟩
theorem flX9_19 : zFl RX9 19 9 0 0 := ⟨_, _, _, rfl, by decide, uwX9, zin (zt1 (List.mem_of_getElem? (i := 30) (by decide +kernel))) rfl, rfl⟩
theorem plX9_19 : zPl RX9 19 9 0 0 .int false := ⟨_, _, _, tyX9, rfl, by decide, uwX9, zin (zt1 (List.mem_of_getElem? (i := 30) (by decide +kernel))) rfl, rfl, tyX9_ok, nmX9, rfl, by decide +kernel, fun _ => rfl⟩
theorem flX9_23 : zFl RX9 23 9 3 0 := ⟨_, _, _, rfl, by decide, uwX9, zin (zt1 (List.mem_of_getElem? (i := 33) (by decide +kernel))) rfl, rfl⟩
theorem plX9_23 : zPl RX9 23 9 3 0 .int false := ⟨_, _, _, tyX9, rfl, by decide, uwX9, zin (zt1 (List.mem_of_getElem? (i := 33) (by decide +kernel))) rfl, rfl, tyX9_ok, nmX9, rfl, by decide +kernel, fun _ => rfl⟩
