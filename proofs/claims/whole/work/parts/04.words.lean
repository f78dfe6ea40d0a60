/-! the words of the tables, by their places -/
theorem uw0_0 : u_lay RX0 TX0 0 ∈ GW := (gw_1 (List.mem_of_getElem? (l := tables_1_1) (i := 60) (by decide +kernel)) rfl)
theorem uw0_1 : u_lay RX0 TX0 1 ∈ GW := (gw_1 (List.mem_of_getElem? (l := tables_1_1) (i := 62) (by decide +kernel)) rfl)
theorem uw0_2 : u_lay RX0 TX0 2 ∈ GW := (gw_1 (List.mem_of_getElem? (l := tables_1_1) (i := 64) (by decide +kernel)) rfl)
theorem uw0_3 : u_lay RX0 TX0 3 ∈ GW := (gw_1 (List.mem_of_getElem? (l := tables_1_1) (i := 66) (by decide +kernel)) rfl)
theorem uw0_4 : u_lay RX0 TX0 4 ∈ GW := (gw_1 (List.mem_of_getElem? (l := tables_1_1) (i := 68) (by decide +kernel)) rfl)
theorem uw0_5 : u_lay RX0 TX0 5 ∈ GW := (gw_1 (List.mem_of_getElem? (l := tables_1_1) (i := 70) (by decide +kernel)) rfl)
theorem uw0_6 : u_lay RX0 TX0 6 ∈ GW := (gw_1 (List.mem_of_getElem? (l := tables_1_1) (i := 72) (by decide +kernel)) rfl)
theorem uw0_7 : u_lay RX0 TX0 7 ∈ GW := (gw_1 (List.mem_of_getElem? (l := tables_1_1) (i := 74) (by decide +kernel)) rfl)
theorem uw0 : ∀ w ∈ u_ws RX0 TX0 8, w ∈ GW := by
  intro w hw
  obtain ⟨k, hk, rfl⟩ := List.mem_map.mp hw
  have hk := List.mem_range.mp hk
  match k, hk with
  | 0, _ => exact uw0_0
  | 1, _ => exact uw0_1
  | 2, _ => exact uw0_2
  | 3, _ => exact uw0_3
  | 4, _ => exact uw0_4
  | 5, _ => exact uw0_5
  | 6, _ => exact uw0_6
  | 7, _ => exact uw0_7
  | k + 8, h => omega
theorem uw1_0 : u_lay RX1 TX1 0 ∈ GW := (gw_1 (List.mem_of_getElem? (l := tables_1_1) (i := 156) (by decide +kernel)) rfl)
theorem uw1_1 : u_lay RX1 TX1 1 ∈ GW := (gw_1 (List.mem_of_getElem? (l := tables_1_1) (i := 158) (by decide +kernel)) rfl)
theorem uw1_2 : u_lay RX1 TX1 2 ∈ GW := (gw_1 (List.mem_of_getElem? (l := tables_1_1) (i := 160) (by decide +kernel)) rfl)
theorem uw1_3 : u_lay RX1 TX1 3 ∈ GW := (gw_1 (List.mem_of_getElem? (l := tables_1_1) (i := 162) (by decide +kernel)) rfl)
theorem uw1_4 : u_lay RX1 TX1 4 ∈ GW := (gw_1 (List.mem_of_getElem? (l := tables_1_1) (i := 164) (by decide +kernel)) rfl)
theorem uw1_5 : u_lay RX1 TX1 5 ∈ GW := (gw_1 (List.mem_of_getElem? (l := tables_1_1) (i := 166) (by decide +kernel)) rfl)
theorem uw1_6 : u_lay RX1 TX1 6 ∈ GW := (gw_1 (List.mem_of_getElem? (l := tables_1_1) (i := 168) (by decide +kernel)) rfl)
theorem uw1_7 : u_lay RX1 TX1 7 ∈ GW := (gw_1 (List.mem_of_getElem? (l := tables_1_1) (i := 170) (by decide +kernel)) rfl)
theorem uw1_8 : u_lay RX1 TX1 8 ∈ GW := (gw_1 (List.mem_of_getElem? (l := tables_1_1) (i := 172) (by decide +kernel)) rfl)
theorem uw1_9 : u_lay RX1 TX1 9 ∈ GW := (gw_1 (List.mem_of_getElem? (l := tables_1_1) (i := 174) (by decide +kernel)) rfl)
theorem uw1 : ∀ w ∈ u_ws RX1 TX1 10, w ∈ GW := by
  intro w hw
  obtain ⟨k, hk, rfl⟩ := List.mem_map.mp hw
  have hk := List.mem_range.mp hk
  match k, hk with
  | 0, _ => exact uw1_0
  | 1, _ => exact uw1_1
  | 2, _ => exact uw1_2
  | 3, _ => exact uw1_3
  | 4, _ => exact uw1_4
  | 5, _ => exact uw1_5
  | 6, _ => exact uw1_6
  | 7, _ => exact uw1_7
  | 8, _ => exact uw1_8
  | 9, _ => exact uw1_9
  | k + 10, h => omega
theorem uw2_0 : u_lay RX2 TX2 0 ∈ GW := (gw_2 (List.mem_of_getElem? (l := tables_1_2) (i := 7) (by decide +kernel)) rfl)
theorem uw2_1 : u_lay RX2 TX2 1 ∈ GW := (gw_2 (List.mem_of_getElem? (l := tables_1_2) (i := 9) (by decide +kernel)) rfl)
theorem uw2_2 : u_lay RX2 TX2 2 ∈ GW := (gw_2 (List.mem_of_getElem? (l := tables_1_2) (i := 11) (by decide +kernel)) rfl)
theorem uw2_3 : u_lay RX2 TX2 3 ∈ GW := (gw_2 (List.mem_of_getElem? (l := tables_1_2) (i := 13) (by decide +kernel)) rfl)
theorem uw2_4 : u_lay RX2 TX2 4 ∈ GW := (gw_2 (List.mem_of_getElem? (l := tables_1_2) (i := 15) (by decide +kernel)) rfl)
theorem uw2 : ∀ w ∈ u_ws RX2 TX2 5, w ∈ GW := by
  intro w hw
  obtain ⟨k, hk, rfl⟩ := List.mem_map.mp hw
  have hk := List.mem_range.mp hk
  match k, hk with
  | 0, _ => exact uw2_0
  | 1, _ => exact uw2_1
  | 2, _ => exact uw2_2
  | 3, _ => exact uw2_3
  | 4, _ => exact uw2_4
  | k + 5, h => omega
theorem uw3_0 : u_lay RX3 TX3 0 ∈ GW := (gw_1 (List.mem_of_getElem? (l := tables_1_1) (i := 228) (by decide +kernel)) rfl)
theorem uw3_1 : u_lay RX3 TX3 1 ∈ GW := (gw_1 (List.mem_of_getElem? (l := tables_1_1) (i := 230) (by decide +kernel)) rfl)
theorem uw3_2 : u_lay RX3 TX3 2 ∈ GW := (gw_1 (List.mem_of_getElem? (l := tables_1_1) (i := 232) (by decide +kernel)) rfl)
theorem uw3_3 : u_lay RX3 TX3 3 ∈ GW := (gw_1 (List.mem_of_getElem? (l := tables_1_1) (i := 234) (by decide +kernel)) rfl)
theorem uw3 : ∀ w ∈ u_ws RX3 TX3 4, w ∈ GW := by
  intro w hw
  obtain ⟨k, hk, rfl⟩ := List.mem_map.mp hw
  have hk := List.mem_range.mp hk
  match k, hk with
  | 0, _ => exact uw3_0
  | 1, _ => exact uw3_1
  | 2, _ => exact uw3_2
  | 3, _ => exact uw3_3
  | k + 4, h => omega
theorem uw4_0 : u_lay RX4 TX4 0 ∈ GW := (gw_1 (List.mem_of_getElem? (l := tables_1_1) (i := 116) (by decide +kernel)) rfl)
theorem uw4_1 : u_lay RX4 TX4 1 ∈ GW := (gw_1 (List.mem_of_getElem? (l := tables_1_1) (i := 118) (by decide +kernel)) rfl)
theorem uw4_2 : u_lay RX4 TX4 2 ∈ GW := (gw_1 (List.mem_of_getElem? (l := tables_1_1) (i := 120) (by decide +kernel)) rfl)
theorem uw4_3 : u_lay RX4 TX4 3 ∈ GW := (gw_1 (List.mem_of_getElem? (l := tables_1_1) (i := 122) (by decide +kernel)) rfl)
theorem uw4_4 : u_lay RX4 TX4 4 ∈ GW := (gw_1 (List.mem_of_getElem? (l := tables_1_1) (i := 124) (by decide +kernel)) rfl)
theorem uw4_5 : u_lay RX4 TX4 5 ∈ GW := (gw_1 (List.mem_of_getElem? (l := tables_1_1) (i := 126) (by decide +kernel)) rfl)
theorem uw4_6 : u_lay RX4 TX4 6 ∈ GW := (gw_1 (List.mem_of_getElem? (l := tables_1_1) (i := 128) (by decide +kernel)) rfl)
theorem uw4_7 : u_lay RX4 TX4 7 ∈ GW := (gw_1 (List.mem_of_getElem? (l := tables_1_1) (i := 130) (by decide +kernel)) rfl)
theorem uw4_8 : u_lay RX4 TX4 8 ∈ GW := (gw_1 (List.mem_of_getElem? (l := tables_1_1) (i := 132) (by decide +kernel)) rfl)
theorem uw4_9 : u_lay RX4 TX4 9 ∈ GW := (gw_1 (List.mem_of_getElem? (l := tables_1_1) (i := 134) (by decide +kernel)) rfl)
theorem uw4 : ∀ w ∈ u_ws RX4 TX4 10, w ∈ GW := by
  intro w hw
  obtain ⟨k, hk, rfl⟩ := List.mem_map.mp hw
  have hk := List.mem_range.mp hk
  match k, hk with
  | 0, _ => exact uw4_0
  | 1, _ => exact uw4_1
  | 2, _ => exact uw4_2
  | 3, _ => exact uw4_3
  | 4, _ => exact uw4_4
  | 5, _ => exact uw4_5
  | 6, _ => exact uw4_6
  | 7, _ => exact uw4_7
  | 8, _ => exact uw4_8
  | 9, _ => exact uw4_9
  | k + 10, h => omega
theorem uw5_0 : u_lay RX5 TX5 0 ∈ GW := (gw_2 (List.mem_of_getElem? (l := tables_1_2) (i := 96) (by decide +kernel)) rfl)
theorem uw5_1 : u_lay RX5 TX5 1 ∈ GW := (gw_2 (List.mem_of_getElem? (l := tables_1_2) (i := 98) (by decide +kernel)) rfl)
theorem uw5_2 : u_lay RX5 TX5 2 ∈ GW := (gw_2 (List.mem_of_getElem? (l := tables_1_2) (i := 100) (by decide +kernel)) rfl)
theorem uw5_3 : u_lay RX5 TX5 3 ∈ GW := (gw_2 (List.mem_of_getElem? (l := tables_1_2) (i := 102) (by decide +kernel)) rfl)
theorem uw5 : ∀ w ∈ u_ws RX5 TX5 4, w ∈ GW := by
  intro w hw
  obtain ⟨k, hk, rfl⟩ := List.mem_map.mp hw
  have hk := List.mem_range.mp hk
  match k, hk with
  | 0, _ => exact uw5_0
  | 1, _ => exact uw5_1
  | 2, _ => exact uw5_2
  | 3, _ => exact uw5_3
  | k + 4, h => omega
theorem uw6_0 : u_lay RX6 TX6 0 ∈ GW := (gw_2 (List.mem_of_getElem? (l := tables_1_2) (i := 122) (by decide +kernel)) rfl)
theorem uw6_1 : u_lay RX6 TX6 1 ∈ GW := (gw_2 (List.mem_of_getElem? (l := tables_1_2) (i := 124) (by decide +kernel)) rfl)
theorem uw6_2 : u_lay RX6 TX6 2 ∈ GW := (gw_2 (List.mem_of_getElem? (l := tables_1_2) (i := 126) (by decide +kernel)) rfl)
theorem uw6_3 : u_lay RX6 TX6 3 ∈ GW := (gw_2 (List.mem_of_getElem? (l := tables_1_2) (i := 128) (by decide +kernel)) rfl)
theorem uw6_4 : u_lay RX6 TX6 4 ∈ GW := (gw_2 (List.mem_of_getElem? (l := tables_1_2) (i := 130) (by decide +kernel)) rfl)
theorem uw6 : ∀ w ∈ u_ws RX6 TX6 5, w ∈ GW := by
  intro w hw
  obtain ⟨k, hk, rfl⟩ := List.mem_map.mp hw
  have hk := List.mem_range.mp hk
  match k, hk with
  | 0, _ => exact uw6_0
  | 1, _ => exact uw6_1
  | 2, _ => exact uw6_2
  | 3, _ => exact uw6_3
  | 4, _ => exact uw6_4
  | k + 5, h => omega
theorem uw7_0 : u_lay RX8 TX8 0 ∈ GW := (gw_2 (List.mem_of_getElem? (l := tables_1_2) (i := 48) (by decide +kernel)) rfl)
theorem uw7_1 : u_lay RX8 TX8 1 ∈ GW := (gw_2 (List.mem_of_getElem? (l := tables_1_2) (i := 50) (by decide +kernel)) rfl)
theorem uw7_2 : u_lay RX8 TX8 2 ∈ GW := (gw_2 (List.mem_of_getElem? (l := tables_1_2) (i := 52) (by decide +kernel)) rfl)
theorem uw7_3 : u_lay RX8 TX8 3 ∈ GW := (gw_2 (List.mem_of_getElem? (l := tables_1_2) (i := 54) (by decide +kernel)) rfl)
theorem uw7_4 : u_lay RX8 TX8 4 ∈ GW := (gw_2 (List.mem_of_getElem? (l := tables_1_2) (i := 56) (by decide +kernel)) rfl)
theorem uw7_5 : u_lay RX8 TX8 5 ∈ GW := (gw_2 (List.mem_of_getElem? (l := tables_1_2) (i := 58) (by decide +kernel)) rfl)
theorem uw7_6 : u_lay RX8 TX8 6 ∈ GW := (gw_2 (List.mem_of_getElem? (l := tables_1_2) (i := 60) (by decide +kernel)) rfl)
theorem uw7_7 : u_lay RX8 TX8 7 ∈ GW := (gw_2 (List.mem_of_getElem? (l := tables_1_2) (i := 62) (by decide +kernel)) rfl)
theorem uw7_8 : u_lay RX8 TX8 8 ∈ GW := (gw_2 (List.mem_of_getElem? (l := tables_1_2) (i := 64) (by decide +kernel)) rfl)
theorem uw7_9 : u_lay RX8 TX8 9 ∈ GW := (gw_2 (List.mem_of_getElem? (l := tables_1_2) (i := 66) (by decide +kernel)) rfl)
theorem uw7_10 : u_lay RX8 TX8 10 ∈ GW := (gw_2 (List.mem_of_getElem? (l := tables_1_2) (i := 68) (by decide +kernel)) rfl)
theorem uw7_11 : u_lay RX8 TX8 11 ∈ GW := (gw_2 (List.mem_of_getElem? (l := tables_1_2) (i := 70) (by decide +kernel)) rfl)
theorem uw7_12 : u_lay RX8 TX8 12 ∈ GW := (gw_2 (List.mem_of_getElem? (l := tables_1_2) (i := 72) (by decide +kernel)) rfl)
theorem uw7_13 : u_lay RX8 TX8 13 ∈ GW := (gw_2 (List.mem_of_getElem? (l := tables_1_2) (i := 74) (by decide +kernel)) rfl)
theorem uw7_14 : u_lay RX8 TX8 14 ∈ GW := (gw_2 (List.mem_of_getElem? (l := tables_1_2) (i := 76) (by decide +kernel)) rfl)
theorem uw7_15 : u_lay RX8 TX8 15 ∈ GW := (gw_2 (List.mem_of_getElem? (l := tables_1_2) (i := 78) (by decide +kernel)) rfl)
theorem uw7 : ∀ w ∈ u_ws RX8 TX8 16, w ∈ GW := by
  intro w hw
  obtain ⟨k, hk, rfl⟩ := List.mem_map.mp hw
  have hk := List.mem_range.mp hk
  match k, hk with
  | 0, _ => exact uw7_0
  | 1, _ => exact uw7_1
  | 2, _ => exact uw7_2
  | 3, _ => exact uw7_3
  | 4, _ => exact uw7_4
  | 5, _ => exact uw7_5
  | 6, _ => exact uw7_6
  | 7, _ => exact uw7_7
  | 8, _ => exact uw7_8
  | 9, _ => exact uw7_9
  | 10, _ => exact uw7_10
  | 11, _ => exact uw7_11
  | 12, _ => exact uw7_12
  | 13, _ => exact uw7_13
  | 14, _ => exact uw7_14
  | 15, _ => exact uw7_15
  | k + 16, h => omega
theorem uw8_0 : u_lay RX9 TX9 0 ∈ GW := (gw_1 (List.mem_of_getElem? (l := tables_1_1) (i := 198) (by decide +kernel)) rfl)
theorem uw8_1 : u_lay RX9 TX9 1 ∈ GW := (gw_1 (List.mem_of_getElem? (l := tables_1_1) (i := 200) (by decide +kernel)) rfl)
theorem uw8_2 : u_lay RX9 TX9 2 ∈ GW := (gw_1 (List.mem_of_getElem? (l := tables_1_1) (i := 202) (by decide +kernel)) rfl)
theorem uw8_3 : u_lay RX9 TX9 3 ∈ GW := (gw_1 (List.mem_of_getElem? (l := tables_1_1) (i := 204) (by decide +kernel)) rfl)
theorem uw8_4 : u_lay RX9 TX9 4 ∈ GW := (gw_1 (List.mem_of_getElem? (l := tables_1_1) (i := 206) (by decide +kernel)) rfl)
theorem uw8_5 : u_lay RX9 TX9 5 ∈ GW := (gw_1 (List.mem_of_getElem? (l := tables_1_1) (i := 208) (by decide +kernel)) rfl)
theorem uw8_6 : u_lay RX9 TX9 6 ∈ GW := (gw_1 (List.mem_of_getElem? (l := tables_1_1) (i := 210) (by decide +kernel)) rfl)
theorem uw8_7 : u_lay RX9 TX9 7 ∈ GW := (gw_1 (List.mem_of_getElem? (l := tables_1_1) (i := 212) (by decide +kernel)) rfl)
theorem uw8 : ∀ w ∈ u_ws RX9 TX9 8, w ∈ GW := by
  intro w hw
  obtain ⟨k, hk, rfl⟩ := List.mem_map.mp hw
  have hk := List.mem_range.mp hk
  match k, hk with
  | 0, _ => exact uw8_0
  | 1, _ => exact uw8_1
  | 2, _ => exact uw8_2
  | 3, _ => exact uw8_3
  | 4, _ => exact uw8_4
  | 5, _ => exact uw8_5
  | 6, _ => exact uw8_6
  | 7, _ => exact uw8_7
  | k + 8, h => omega
theorem uw9_0 : u_lay RX10 TX10 0 ∈ GW := (gw_2 (List.mem_of_getElem? (l := tables_1_2) (i := 142) (by decide +kernel)) rfl)
theorem uw9_1 : u_lay RX10 TX10 1 ∈ GW := (gw_2 (List.mem_of_getElem? (l := tables_1_2) (i := 144) (by decide +kernel)) rfl)
theorem uw9_2 : u_lay RX10 TX10 2 ∈ GW := (gw_2 (List.mem_of_getElem? (l := tables_1_2) (i := 146) (by decide +kernel)) rfl)
theorem uw9_3 : u_lay RX10 TX10 3 ∈ GW := (gw_2 (List.mem_of_getElem? (l := tables_1_2) (i := 148) (by decide +kernel)) rfl)
theorem uw9_4 : u_lay RX10 TX10 4 ∈ GW := (gw_2 (List.mem_of_getElem? (l := tables_1_2) (i := 150) (by decide +kernel)) rfl)
theorem uw9_5 : u_lay RX10 TX10 5 ∈ GW := (gw_2 (List.mem_of_getElem? (l := tables_1_2) (i := 152) (by decide +kernel)) rfl)
theorem uw9_6 : u_lay RX10 TX10 6 ∈ GW := (gw_2 (List.mem_of_getElem? (l := tables_1_2) (i := 154) (by decide +kernel)) rfl)
theorem uw9_7 : u_lay RX10 TX10 7 ∈ GW := (gw_2 (List.mem_of_getElem? (l := tables_1_2) (i := 156) (by decide +kernel)) rfl)
theorem uw9_8 : u_lay RX10 TX10 8 ∈ GW := (gw_2 (List.mem_of_getElem? (l := tables_1_2) (i := 158) (by decide +kernel)) rfl)
theorem uw9 : ∀ w ∈ u_ws RX10 TX10 9, w ∈ GW := by
  intro w hw
  obtain ⟨k, hk, rfl⟩ := List.mem_map.mp hw
  have hk := List.mem_range.mp hk
  match k, hk with
  | 0, _ => exact uw9_0
  | 1, _ => exact uw9_1
  | 2, _ => exact uw9_2
  | 3, _ => exact uw9_3
  | 4, _ => exact uw9_4
  | 5, _ => exact uw9_5
  | 6, _ => exact uw9_6
  | 7, _ => exact uw9_7
  | 8, _ => exact uw9_8
  | k + 9, h => omega
theorem uw10_0 : u_lay RX11 TX11 0 ∈ GW := (gw_5 (List.mem_of_getElem? (l := tables_1_5) (i := 196) (by decide +kernel)) rfl)
theorem uw10_1 : u_lay RX11 TX11 1 ∈ GW := (gw_5 (List.mem_of_getElem? (l := tables_1_5) (i := 198) (by decide +kernel)) rfl)
theorem uw10_2 : u_lay RX11 TX11 2 ∈ GW := (gw_5 (List.mem_of_getElem? (l := tables_1_5) (i := 200) (by decide +kernel)) rfl)
theorem uw10_3 : u_lay RX11 TX11 3 ∈ GW := (gw_5 (List.mem_of_getElem? (l := tables_1_5) (i := 202) (by decide +kernel)) rfl)
theorem uw10_4 : u_lay RX11 TX11 4 ∈ GW := (gw_5 (List.mem_of_getElem? (l := tables_1_5) (i := 204) (by decide +kernel)) rfl)
theorem uw10_5 : u_lay RX11 TX11 5 ∈ GW := (gw_5 (List.mem_of_getElem? (l := tables_1_5) (i := 206) (by decide +kernel)) rfl)
theorem uw10_6 : u_lay RX11 TX11 6 ∈ GW := (gw_5 (List.mem_of_getElem? (l := tables_1_5) (i := 208) (by decide +kernel)) rfl)
theorem uw10_7 : u_lay RX11 TX11 7 ∈ GW := (gw_5 (List.mem_of_getElem? (l := tables_1_5) (i := 210) (by decide +kernel)) rfl)
theorem uw10_8 : u_lay RX11 TX11 8 ∈ GW := (gw_5 (List.mem_of_getElem? (l := tables_1_5) (i := 212) (by decide +kernel)) rfl)
theorem uw10_9 : u_lay RX11 TX11 9 ∈ GW := (gw_5 (List.mem_of_getElem? (l := tables_1_5) (i := 214) (by decide +kernel)) rfl)
theorem uw10_10 : u_lay RX11 TX11 10 ∈ GW := (gw_5 (List.mem_of_getElem? (l := tables_1_5) (i := 216) (by decide +kernel)) rfl)
theorem uw10_11 : u_lay RX11 TX11 11 ∈ GW := (gw_5 (List.mem_of_getElem? (l := tables_1_5) (i := 218) (by decide +kernel)) rfl)
theorem uw10_12 : u_lay RX11 TX11 12 ∈ GW := (gw_5 (List.mem_of_getElem? (l := tables_1_5) (i := 220) (by decide +kernel)) rfl)
theorem uw10_13 : u_lay RX11 TX11 13 ∈ GW := (gw_5 (List.mem_of_getElem? (l := tables_1_5) (i := 222) (by decide +kernel)) rfl)
theorem uw10_14 : u_lay RX11 TX11 14 ∈ GW := (gw_5 (List.mem_of_getElem? (l := tables_1_5) (i := 224) (by decide +kernel)) rfl)
theorem uw10_15 : u_lay RX11 TX11 15 ∈ GW := (gw_5 (List.mem_of_getElem? (l := tables_1_5) (i := 226) (by decide +kernel)) rfl)
theorem uw10_16 : u_lay RX11 TX11 16 ∈ GW := (gw_5 (List.mem_of_getElem? (l := tables_1_5) (i := 228) (by decide +kernel)) rfl)
theorem uw10_17 : u_lay RX11 TX11 17 ∈ GW := (gw_5 (List.mem_of_getElem? (l := tables_1_5) (i := 230) (by decide +kernel)) rfl)
theorem uw10_18 : u_lay RX11 TX11 18 ∈ GW := (gw_5 (List.mem_of_getElem? (l := tables_1_5) (i := 232) (by decide +kernel)) rfl)
theorem uw10_19 : u_lay RX11 TX11 19 ∈ GW := (gw_5 (List.mem_of_getElem? (l := tables_1_5) (i := 234) (by decide +kernel)) rfl)
theorem uw10_20 : u_lay RX11 TX11 20 ∈ GW := (gw_5 (List.mem_of_getElem? (l := tables_1_5) (i := 236) (by decide +kernel)) rfl)
theorem uw10_21 : u_lay RX11 TX11 21 ∈ GW := (gw_5 (List.mem_of_getElem? (l := tables_1_5) (i := 238) (by decide +kernel)) rfl)
theorem uw10_22 : u_lay RX11 TX11 22 ∈ GW := (gw_6 (List.mem_of_getElem? (l := tables_1_6) (i := 0) (by decide +kernel)) rfl)
theorem uw10_23 : u_lay RX11 TX11 23 ∈ GW := (gw_6 (List.mem_of_getElem? (l := tables_1_6) (i := 2) (by decide +kernel)) rfl)
theorem uw10_24 : u_lay RX11 TX11 24 ∈ GW := (gw_6 (List.mem_of_getElem? (l := tables_1_6) (i := 4) (by decide +kernel)) rfl)
theorem uw10_25 : u_lay RX11 TX11 25 ∈ GW := (gw_6 (List.mem_of_getElem? (l := tables_1_6) (i := 6) (by decide +kernel)) rfl)
theorem uw10_26 : u_lay RX11 TX11 26 ∈ GW := (gw_6 (List.mem_of_getElem? (l := tables_1_6) (i := 8) (by decide +kernel)) rfl)
theorem uw10_27 : u_lay RX11 TX11 27 ∈ GW := (gw_6 (List.mem_of_getElem? (l := tables_1_6) (i := 10) (by decide +kernel)) rfl)
theorem uw10_28 : u_lay RX11 TX11 28 ∈ GW := (gw_6 (List.mem_of_getElem? (l := tables_1_6) (i := 12) (by decide +kernel)) rfl)
theorem uw10_29 : u_lay RX11 TX11 29 ∈ GW := (gw_6 (List.mem_of_getElem? (l := tables_1_6) (i := 14) (by decide +kernel)) rfl)
theorem uw10_30 : u_lay RX11 TX11 30 ∈ GW := (gw_6 (List.mem_of_getElem? (l := tables_1_6) (i := 16) (by decide +kernel)) rfl)
theorem uw10_31 : u_lay RX11 TX11 31 ∈ GW := (gw_6 (List.mem_of_getElem? (l := tables_1_6) (i := 18) (by decide +kernel)) rfl)
theorem uw10_32 : u_lay RX11 TX11 32 ∈ GW := (gw_6 (List.mem_of_getElem? (l := tables_1_6) (i := 20) (by decide +kernel)) rfl)
theorem uw10_33 : u_lay RX11 TX11 33 ∈ GW := (gw_6 (List.mem_of_getElem? (l := tables_1_6) (i := 22) (by decide +kernel)) rfl)
theorem uw10_34 : u_lay RX11 TX11 34 ∈ GW := (gw_6 (List.mem_of_getElem? (l := tables_1_6) (i := 24) (by decide +kernel)) rfl)
theorem uw10_35 : u_lay RX11 TX11 35 ∈ GW := (gw_6 (List.mem_of_getElem? (l := tables_1_6) (i := 26) (by decide +kernel)) rfl)
theorem uw10 : ∀ w ∈ u_ws RX11 TX11 36, w ∈ GW := by
  intro w hw
  obtain ⟨k, hk, rfl⟩ := List.mem_map.mp hw
  have hk := List.mem_range.mp hk
  match k, hk with
  | 0, _ => exact uw10_0
  | 1, _ => exact uw10_1
  | 2, _ => exact uw10_2
  | 3, _ => exact uw10_3
  | 4, _ => exact uw10_4
  | 5, _ => exact uw10_5
  | 6, _ => exact uw10_6
  | 7, _ => exact uw10_7
  | 8, _ => exact uw10_8
  | 9, _ => exact uw10_9
  | 10, _ => exact uw10_10
  | 11, _ => exact uw10_11
  | 12, _ => exact uw10_12
  | 13, _ => exact uw10_13
  | 14, _ => exact uw10_14
  | 15, _ => exact uw10_15
  | 16, _ => exact uw10_16
  | 17, _ => exact uw10_17
  | 18, _ => exact uw10_18
  | 19, _ => exact uw10_19
  | 20, _ => exact uw10_20
  | 21, _ => exact uw10_21
  | 22, _ => exact uw10_22
  | 23, _ => exact uw10_23
  | 24, _ => exact uw10_24
  | 25, _ => exact uw10_25
  | 26, _ => exact uw10_26
  | 27, _ => exact uw10_27
  | 28, _ => exact uw10_28
  | 29, _ => exact uw10_29
  | 30, _ => exact uw10_30
  | 31, _ => exact uw10_31
  | 32, _ => exact uw10_32
  | 33, _ => exact uw10_33
  | 34, _ => exact uw10_34
  | 35, _ => exact uw10_35
  | k + 36, h => omega
theorem fw_RX0_9 : Cond.fieldLink RX0 9 (TX0 0).1 (TX0 0).2.1 (TX0 0).2.2.1 ∈ GW := (gw_1 (List.mem_of_getElem? (l := tables_1_1) (i := 40) (by decide +kernel)) rfl)
theorem fl_RX0_9 : FLk RX0 9 0 0 := ⟨by decide, by decide, RX0, TX0, rfl, uw0, fw_RX0_9⟩
theorem fw_RX10_81 : Cond.fieldLink RX10 81 (TX0 0).1 (TX0 0).2.1 (TX0 0).2.2.1 ∈ GW := (gw_1 (List.mem_of_getElem? (l := tables_1_1) (i := 41) (by decide +kernel)) rfl)
theorem fl_RX10_81 : FLk RX10 81 0 0 := ⟨by decide, by decide, RX0, TX0, rfl, uw0, fw_RX10_81⟩
theorem fw_RX1_90 : Cond.fieldLink RX1 90 (TX0 0).1 (TX0 0).2.1 (TX0 0).2.2.1 ∈ GW := (gw_1 (List.mem_of_getElem? (l := tables_1_1) (i := 42) (by decide +kernel)) rfl)
theorem fl_RX1_90 : FLk RX1 90 0 0 := ⟨by decide, by decide, RX0, TX0, rfl, uw0, fw_RX1_90⟩
theorem fw_RX0_15 : Cond.fieldLink RX0 15 (TX0 1).1 (TX0 1).2.1 (TX0 1).2.2.1 ∈ GW := (gw_1 (List.mem_of_getElem? (l := tables_1_1) (i := 43) (by decide +kernel)) rfl)
theorem fl_RX0_15 : FLk RX0 15 0 1 := ⟨by decide, by decide, RX0, TX0, rfl, uw0, fw_RX0_15⟩
theorem fw_RX10_84 : Cond.fieldLink RX10 84 (TX0 1).1 (TX0 1).2.1 (TX0 1).2.2.1 ∈ GW := (gw_1 (List.mem_of_getElem? (l := tables_1_1) (i := 44) (by decide +kernel)) rfl)
theorem fl_RX10_84 : FLk RX10 84 0 1 := ⟨by decide, by decide, RX0, TX0, rfl, uw0, fw_RX10_84⟩
theorem fw_RX1_95 : Cond.fieldLink RX1 95 (TX0 1).1 (TX0 1).2.1 (TX0 1).2.2.1 ∈ GW := (gw_1 (List.mem_of_getElem? (l := tables_1_1) (i := 45) (by decide +kernel)) rfl)
theorem fl_RX1_95 : FLk RX1 95 0 1 := ⟨by decide, by decide, RX0, TX0, rfl, uw0, fw_RX1_95⟩
theorem fw_RX0_18 : Cond.fieldLink RX0 18 (TX0 2).1 (TX0 2).2.1 (TX0 2).2.2.1 ∈ GW := (gw_1 (List.mem_of_getElem? (l := tables_1_1) (i := 46) (by decide +kernel)) rfl)
theorem fl_RX0_18 : FLk RX0 18 0 2 := ⟨by decide, by decide, RX0, TX0, rfl, uw0, fw_RX0_18⟩
theorem fw_RX10_87 : Cond.fieldLink RX10 87 (TX0 2).1 (TX0 2).2.1 (TX0 2).2.2.1 ∈ GW := (gw_1 (List.mem_of_getElem? (l := tables_1_1) (i := 47) (by decide +kernel)) rfl)
theorem fl_RX10_87 : FLk RX10 87 0 2 := ⟨by decide, by decide, RX0, TX0, rfl, uw0, fw_RX10_87⟩
theorem fw_RX0_21 : Cond.fieldLink RX0 21 (TX0 3).1 (TX0 3).2.1 (TX0 3).2.2.1 ∈ GW := (gw_1 (List.mem_of_getElem? (l := tables_1_1) (i := 48) (by decide +kernel)) rfl)
theorem fl_RX0_21 : FLk RX0 21 0 3 := ⟨by decide, by decide, RX0, TX0, rfl, uw0, fw_RX0_21⟩
theorem fw_RX10_90 : Cond.fieldLink RX10 90 (TX0 3).1 (TX0 3).2.1 (TX0 3).2.2.1 ∈ GW := (gw_1 (List.mem_of_getElem? (l := tables_1_1) (i := 49) (by decide +kernel)) rfl)
theorem fl_RX10_90 : FLk RX10 90 0 3 := ⟨by decide, by decide, RX0, TX0, rfl, uw0, fw_RX10_90⟩
theorem fw_RX2_113 : Cond.fieldLink RX2 113 (TX0 3).1 (TX0 3).2.1 (TX0 3).2.2.1 ∈ GW := (gw_1 (List.mem_of_getElem? (l := tables_1_1) (i := 50) (by decide +kernel)) rfl)
theorem fl_RX2_113 : FLk RX2 113 0 3 := ⟨by decide, by decide, RX0, TX0, rfl, uw0, fw_RX2_113⟩
theorem fw_RX0_24 : Cond.fieldLink RX0 24 (TX0 4).1 (TX0 4).2.1 (TX0 4).2.2.1 ∈ GW := (gw_1 (List.mem_of_getElem? (l := tables_1_1) (i := 51) (by decide +kernel)) rfl)
theorem fl_RX0_24 : FLk RX0 24 0 4 := ⟨by decide, by decide, RX0, TX0, rfl, uw0, fw_RX0_24⟩
theorem fw_RX10_93 : Cond.fieldLink RX10 93 (TX0 4).1 (TX0 4).2.1 (TX0 4).2.2.1 ∈ GW := (gw_1 (List.mem_of_getElem? (l := tables_1_1) (i := 52) (by decide +kernel)) rfl)
theorem fl_RX10_93 : FLk RX10 93 0 4 := ⟨by decide, by decide, RX0, TX0, rfl, uw0, fw_RX10_93⟩
theorem fw_RX1_132 : Cond.fieldLink RX1 132 (TX0 4).1 (TX0 4).2.1 (TX0 4).2.2.1 ∈ GW := (gw_1 (List.mem_of_getElem? (l := tables_1_1) (i := 53) (by decide +kernel)) rfl)
theorem fl_RX1_132 : FLk RX1 132 0 4 := ⟨by decide, by decide, RX0, TX0, rfl, uw0, fw_RX1_132⟩
theorem fw_RX0_27 : Cond.fieldLink RX0 27 (TX0 5).1 (TX0 5).2.1 (TX0 5).2.2.1 ∈ GW := (gw_1 (List.mem_of_getElem? (l := tables_1_1) (i := 54) (by decide +kernel)) rfl)
theorem fl_RX0_27 : FLk RX0 27 0 5 := ⟨by decide, by decide, RX0, TX0, rfl, uw0, fw_RX0_27⟩
theorem fp_RX0_27 : FLu RX0 27 0 5 .int := ⟨by decide, by decide, RX0, TX0, tyX0, rfl, uw0, fw_RX0_27, rfl, tyX0_ok 5 (by decide), tyX0_ok, nmX0⟩
theorem fw_RX2_96 : Cond.fieldLink RX2 96 (TX0 5).1 (TX0 5).2.1 (TX0 5).2.2.1 ∈ GW := (gw_1 (List.mem_of_getElem? (l := tables_1_1) (i := 55) (by decide +kernel)) rfl)
theorem fl_RX2_96 : FLk RX2 96 0 5 := ⟨by decide, by decide, RX0, TX0, rfl, uw0, fw_RX2_96⟩
theorem fp_RX2_96 : FLu RX2 96 0 5 .int := ⟨by decide, by decide, RX0, TX0, tyX0, rfl, uw0, fw_RX2_96, rfl, tyX0_ok 5 (by decide), tyX0_ok, nmX0⟩
theorem fw_RX10_345 : Cond.fieldLink RX10 345 (TX0 5).1 (TX0 5).2.1 (TX0 5).2.2.1 ∈ GW := (gw_1 (List.mem_of_getElem? (l := tables_1_1) (i := 56) (by decide +kernel)) rfl)
theorem fl_RX10_345 : FLk RX10 345 0 5 := ⟨by decide, by decide, RX0, TX0, rfl, uw0, fw_RX10_345⟩
theorem fp_RX10_345 : FLu RX10 345 0 5 .int := ⟨by decide, by decide, RX0, TX0, tyX0, rfl, uw0, fw_RX10_345, rfl, tyX0_ok 5 (by decide), tyX0_ok, nmX0⟩
theorem fw_RX0_31 : Cond.fieldLink RX0 31 (TX0 6).1 (TX0 6).2.1 (TX0 6).2.2.1 ∈ GW := (gw_1 (List.mem_of_getElem? (l := tables_1_1) (i := 57) (by decide +kernel)) rfl)
theorem fl_RX0_31 : FLk RX0 31 0 6 := ⟨by decide, by decide, RX0, TX0, rfl, uw0, fw_RX0_31⟩
theorem fw_RX0_34 : Cond.fieldLink RX0 34 (TX0 7).1 (TX0 7).2.1 (TX0 7).2.2.1 ∈ GW := (gw_1 (List.mem_of_getElem? (l := tables_1_1) (i := 58) (by decide +kernel)) rfl)
theorem fl_RX0_34 : FLk RX0 34 0 7 := ⟨by decide, by decide, RX0, TX0, rfl, uw0, fw_RX0_34⟩
theorem fp_RX0_34 : FLu RX0 34 0 7 .int := ⟨by decide, by decide, RX0, TX0, tyX0, rfl, uw0, fw_RX0_34, rfl, tyX0_ok 7 (by decide), tyX0_ok, nmX0⟩
theorem fw_RX10_237 : Cond.fieldLink RX10 237 (TX0 7).1 (TX0 7).2.1 (TX0 7).2.2.1 ∈ GW := (gw_1 (List.mem_of_getElem? (l := tables_1_1) (i := 59) (by decide +kernel)) rfl)
theorem fl_RX10_237 : FLk RX10 237 0 7 := ⟨by decide, by decide, RX0, TX0, rfl, uw0, fw_RX10_237⟩
theorem fp_RX10_237 : FLu RX10 237 0 7 .int := ⟨by decide, by decide, RX0, TX0, tyX0, rfl, uw0, fw_RX10_237, rfl, tyX0_ok 7 (by decide), tyX0_ok, nmX0⟩
theorem fw_RX4_15 : Cond.fieldLink RX4 15 (TX4 0).1 (TX4 0).2.1 (TX4 0).2.2.1 ∈ GW := (gw_1 (List.mem_of_getElem? (l := tables_1_1) (i := 91) (by decide +kernel)) rfl)
theorem fl_RX4_15 : FLk RX4 15 4 0 := ⟨by decide, by decide, RX4, TX4, rfl, uw4, fw_RX4_15⟩
theorem fp_RX4_15 : FLu RX4 15 4 0 .int := ⟨by decide, by decide, RX4, TX4, tyX4, rfl, uw4, fw_RX4_15, rfl, tyX4_ok 0 (by decide), tyX4_ok, nmX4⟩
theorem fw_RX10_136 : Cond.fieldLink RX10 136 (TX4 0).1 (TX4 0).2.1 (TX4 0).2.2.1 ∈ GW := (gw_1 (List.mem_of_getElem? (l := tables_1_1) (i := 92) (by decide +kernel)) rfl)
theorem fl_RX10_136 : FLk RX10 136 4 0 := ⟨by decide, by decide, RX4, TX4, rfl, uw4, fw_RX10_136⟩
theorem fp_RX10_136 : FLu RX10 136 4 0 .int := ⟨by decide, by decide, RX4, TX4, tyX4, rfl, uw4, fw_RX10_136, rfl, tyX4_ok 0 (by decide), tyX4_ok, nmX4⟩
theorem fw_RX1_98 : Cond.fieldLink RX1 98 (TX4 0).1 (TX4 0).2.1 (TX4 0).2.2.1 ∈ GW := (gw_1 (List.mem_of_getElem? (l := tables_1_1) (i := 93) (by decide +kernel)) rfl)
theorem fl_RX1_98 : FLk RX1 98 4 0 := ⟨by decide, by decide, RX4, TX4, rfl, uw4, fw_RX1_98⟩
theorem fp_RX1_98 : FLu RX1 98 4 0 .int := ⟨by decide, by decide, RX4, TX4, tyX4, rfl, uw4, fw_RX1_98, rfl, tyX4_ok 0 (by decide), tyX4_ok, nmX4⟩
theorem fw_RX4_19 : Cond.fieldLink RX4 19 (TX4 1).1 (TX4 1).2.1 (TX4 1).2.2.1 ∈ GW := (gw_1 (List.mem_of_getElem? (l := tables_1_1) (i := 94) (by decide +kernel)) rfl)
theorem fl_RX4_19 : FLk RX4 19 4 1 := ⟨by decide, by decide, RX4, TX4, rfl, uw4, fw_RX4_19⟩
theorem fp_RX4_19 : FLu RX4 19 4 1 .int := ⟨by decide, by decide, RX4, TX4, tyX4, rfl, uw4, fw_RX4_19, rfl, tyX4_ok 1 (by decide), tyX4_ok, nmX4⟩
theorem fw_RX10_141 : Cond.fieldLink RX10 141 (TX4 1).1 (TX4 1).2.1 (TX4 1).2.2.1 ∈ GW := (gw_1 (List.mem_of_getElem? (l := tables_1_1) (i := 95) (by decide +kernel)) rfl)
theorem fl_RX10_141 : FLk RX10 141 4 1 := ⟨by decide, by decide, RX4, TX4, rfl, uw4, fw_RX10_141⟩
theorem fp_RX10_141 : FLu RX10 141 4 1 .int := ⟨by decide, by decide, RX4, TX4, tyX4, rfl, uw4, fw_RX10_141, rfl, tyX4_ok 1 (by decide), tyX4_ok, nmX4⟩
theorem fw_RX1_101 : Cond.fieldLink RX1 101 (TX4 1).1 (TX4 1).2.1 (TX4 1).2.2.1 ∈ GW := (gw_1 (List.mem_of_getElem? (l := tables_1_1) (i := 96) (by decide +kernel)) rfl)
theorem fl_RX1_101 : FLk RX1 101 4 1 := ⟨by decide, by decide, RX4, TX4, rfl, uw4, fw_RX1_101⟩
theorem fp_RX1_101 : FLu RX1 101 4 1 .int := ⟨by decide, by decide, RX4, TX4, tyX4, rfl, uw4, fw_RX1_101, rfl, tyX4_ok 1 (by decide), tyX4_ok, nmX4⟩
theorem fw_RX4_22 : Cond.fieldLink RX4 22 (TX4 2).1 (TX4 2).2.1 (TX4 2).2.2.1 ∈ GW := (gw_1 (List.mem_of_getElem? (l := tables_1_1) (i := 97) (by decide +kernel)) rfl)
theorem fl_RX4_22 : FLk RX4 22 4 2 := ⟨by decide, by decide, RX4, TX4, rfl, uw4, fw_RX4_22⟩
theorem fp_RX4_22 : FLu RX4 22 4 2 .int := ⟨by decide, by decide, RX4, TX4, tyX4, rfl, uw4, fw_RX4_22, rfl, tyX4_ok 2 (by decide), tyX4_ok, nmX4⟩
theorem fw_RX10_144 : Cond.fieldLink RX10 144 (TX4 2).1 (TX4 2).2.1 (TX4 2).2.2.1 ∈ GW := (gw_1 (List.mem_of_getElem? (l := tables_1_1) (i := 98) (by decide +kernel)) rfl)
theorem fl_RX10_144 : FLk RX10 144 4 2 := ⟨by decide, by decide, RX4, TX4, rfl, uw4, fw_RX10_144⟩
theorem fp_RX10_144 : FLu RX10 144 4 2 .int := ⟨by decide, by decide, RX4, TX4, tyX4, rfl, uw4, fw_RX10_144, rfl, tyX4_ok 2 (by decide), tyX4_ok, nmX4⟩
theorem fw_RX1_102 : Cond.fieldLink RX1 102 (TX4 2).1 (TX4 2).2.1 (TX4 2).2.2.1 ∈ GW := (gw_1 (List.mem_of_getElem? (l := tables_1_1) (i := 99) (by decide +kernel)) rfl)
theorem fl_RX1_102 : FLk RX1 102 4 2 := ⟨by decide, by decide, RX4, TX4, rfl, uw4, fw_RX1_102⟩
theorem fp_RX1_102 : FLu RX1 102 4 2 .int := ⟨by decide, by decide, RX4, TX4, tyX4, rfl, uw4, fw_RX1_102, rfl, tyX4_ok 2 (by decide), tyX4_ok, nmX4⟩
theorem fw_RX4_25 : Cond.fieldLink RX4 25 (TX4 3).1 (TX4 3).2.1 (TX4 3).2.2.1 ∈ GW := (gw_1 (List.mem_of_getElem? (l := tables_1_1) (i := 100) (by decide +kernel)) rfl)
theorem fl_RX4_25 : FLk RX4 25 4 3 := ⟨by decide, by decide, RX4, TX4, rfl, uw4, fw_RX4_25⟩
theorem fp_RX4_25 : FLu RX4 25 4 3 .int := ⟨by decide, by decide, RX4, TX4, tyX4, rfl, uw4, fw_RX4_25, rfl, tyX4_ok 3 (by decide), tyX4_ok, nmX4⟩
theorem fw_RX1_77 : Cond.fieldLink RX1 77 (TX4 3).1 (TX4 3).2.1 (TX4 3).2.2.1 ∈ GW := (gw_1 (List.mem_of_getElem? (l := tables_1_1) (i := 101) (by decide +kernel)) rfl)
theorem fl_RX1_77 : FLk RX1 77 4 3 := ⟨by decide, by decide, RX4, TX4, rfl, uw4, fw_RX1_77⟩
theorem fp_RX1_77 : FLu RX1 77 4 3 .int := ⟨by decide, by decide, RX4, TX4, tyX4, rfl, uw4, fw_RX1_77, rfl, tyX4_ok 3 (by decide), tyX4_ok, nmX4⟩
theorem fw_RX4_28 : Cond.fieldLink RX4 28 (TX4 4).1 (TX4 4).2.1 (TX4 4).2.2.1 ∈ GW := (gw_1 (List.mem_of_getElem? (l := tables_1_1) (i := 102) (by decide +kernel)) rfl)
theorem fl_RX4_28 : FLk RX4 28 4 4 := ⟨by decide, by decide, RX4, TX4, rfl, uw4, fw_RX4_28⟩
theorem fp_RX4_28 : FLu RX4 28 4 4 .int := ⟨by decide, by decide, RX4, TX4, tyX4, rfl, uw4, fw_RX4_28, rfl, tyX4_ok 4 (by decide), tyX4_ok, nmX4⟩
theorem fw_RX1_114 : Cond.fieldLink RX1 114 (TX4 4).1 (TX4 4).2.1 (TX4 4).2.2.1 ∈ GW := (gw_1 (List.mem_of_getElem? (l := tables_1_1) (i := 103) (by decide +kernel)) rfl)
theorem fl_RX1_114 : FLk RX1 114 4 4 := ⟨by decide, by decide, RX4, TX4, rfl, uw4, fw_RX1_114⟩
theorem fp_RX1_114 : FLu RX1 114 4 4 .int := ⟨by decide, by decide, RX4, TX4, tyX4, rfl, uw4, fw_RX1_114, rfl, tyX4_ok 4 (by decide), tyX4_ok, nmX4⟩
theorem fw_RX4_31 : Cond.fieldLink RX4 31 (TX4 5).1 (TX4 5).2.1 (TX4 5).2.2.1 ∈ GW := (gw_1 (List.mem_of_getElem? (l := tables_1_1) (i := 104) (by decide +kernel)) rfl)
theorem fl_RX4_31 : FLk RX4 31 4 5 := ⟨by decide, by decide, RX4, TX4, rfl, uw4, fw_RX4_31⟩
theorem fp_RX4_31 : FLu RX4 31 4 5 .int := ⟨by decide, by decide, RX4, TX4, tyX4, rfl, uw4, fw_RX4_31, rfl, tyX4_ok 5 (by decide), tyX4_ok, nmX4⟩
theorem fw_RX1_118 : Cond.fieldLink RX1 118 (TX4 5).1 (TX4 5).2.1 (TX4 5).2.2.1 ∈ GW := (gw_1 (List.mem_of_getElem? (l := tables_1_1) (i := 105) (by decide +kernel)) rfl)
theorem fl_RX1_118 : FLk RX1 118 4 5 := ⟨by decide, by decide, RX4, TX4, rfl, uw4, fw_RX1_118⟩
theorem fp_RX1_118 : FLu RX1 118 4 5 .int := ⟨by decide, by decide, RX4, TX4, tyX4, rfl, uw4, fw_RX1_118, rfl, tyX4_ok 5 (by decide), tyX4_ok, nmX4⟩
theorem fw_RX4_34 : Cond.fieldLink RX4 34 (TX4 6).1 (TX4 6).2.1 (TX4 6).2.2.1 ∈ GW := (gw_1 (List.mem_of_getElem? (l := tables_1_1) (i := 106) (by decide +kernel)) rfl)
theorem fl_RX4_34 : FLk RX4 34 4 6 := ⟨by decide, by decide, RX4, TX4, rfl, uw4, fw_RX4_34⟩
theorem fp_RX4_34 : FLu RX4 34 4 6 .int := ⟨by decide, by decide, RX4, TX4, tyX4, rfl, uw4, fw_RX4_34, rfl, tyX4_ok 6 (by decide), tyX4_ok, nmX4⟩
theorem fw_RX1_122 : Cond.fieldLink RX1 122 (TX4 6).1 (TX4 6).2.1 (TX4 6).2.2.1 ∈ GW := (gw_1 (List.mem_of_getElem? (l := tables_1_1) (i := 107) (by decide +kernel)) rfl)
theorem fl_RX1_122 : FLk RX1 122 4 6 := ⟨by decide, by decide, RX4, TX4, rfl, uw4, fw_RX1_122⟩
theorem fp_RX1_122 : FLu RX1 122 4 6 .int := ⟨by decide, by decide, RX4, TX4, tyX4, rfl, uw4, fw_RX1_122, rfl, tyX4_ok 6 (by decide), tyX4_ok, nmX4⟩
theorem fw_RX4_37 : Cond.fieldLink RX4 37 (TX4 7).1 (TX4 7).2.1 (TX4 7).2.2.1 ∈ GW := (gw_1 (List.mem_of_getElem? (l := tables_1_1) (i := 108) (by decide +kernel)) rfl)
theorem fl_RX4_37 : FLk RX4 37 4 7 := ⟨by decide, by decide, RX4, TX4, rfl, uw4, fw_RX4_37⟩
theorem fp_RX4_37 : FLu RX4 37 4 7 .int := ⟨by decide, by decide, RX4, TX4, tyX4, rfl, uw4, fw_RX4_37, rfl, tyX4_ok 7 (by decide), tyX4_ok, nmX4⟩
theorem fw_RX1_126 : Cond.fieldLink RX1 126 (TX4 7).1 (TX4 7).2.1 (TX4 7).2.2.1 ∈ GW := (gw_1 (List.mem_of_getElem? (l := tables_1_1) (i := 109) (by decide +kernel)) rfl)
theorem fl_RX1_126 : FLk RX1 126 4 7 := ⟨by decide, by decide, RX4, TX4, rfl, uw4, fw_RX1_126⟩
theorem fp_RX1_126 : FLu RX1 126 4 7 .int := ⟨by decide, by decide, RX4, TX4, tyX4, rfl, uw4, fw_RX1_126, rfl, tyX4_ok 7 (by decide), tyX4_ok, nmX4⟩
theorem fw_RX4_40 : Cond.fieldLink RX4 40 (TX4 8).1 (TX4 8).2.1 (TX4 8).2.2.1 ∈ GW := (gw_1 (List.mem_of_getElem? (l := tables_1_1) (i := 110) (by decide +kernel)) rfl)
theorem fl_RX4_40 : FLk RX4 40 4 8 := ⟨by decide, by decide, RX4, TX4, rfl, uw4, fw_RX4_40⟩
theorem fp_RX4_40 : FLu RX4 40 4 8 .int := ⟨by decide, by decide, RX4, TX4, tyX4, rfl, uw4, fw_RX4_40, rfl, tyX4_ok 8 (by decide), tyX4_ok, nmX4⟩
theorem fw_RX10_146 : Cond.fieldLink RX10 146 (TX4 8).1 (TX4 8).2.1 (TX4 8).2.2.1 ∈ GW := (gw_1 (List.mem_of_getElem? (l := tables_1_1) (i := 111) (by decide +kernel)) rfl)
theorem fl_RX10_146 : FLk RX10 146 4 8 := ⟨by decide, by decide, RX4, TX4, rfl, uw4, fw_RX10_146⟩
theorem fp_RX10_146 : FLu RX10 146 4 8 .int := ⟨by decide, by decide, RX4, TX4, tyX4, rfl, uw4, fw_RX10_146, rfl, tyX4_ok 8 (by decide), tyX4_ok, nmX4⟩
theorem fw_RX1_129 : Cond.fieldLink RX1 129 (TX4 8).1 (TX4 8).2.1 (TX4 8).2.2.1 ∈ GW := (gw_1 (List.mem_of_getElem? (l := tables_1_1) (i := 112) (by decide +kernel)) rfl)
theorem fl_RX1_129 : FLk RX1 129 4 8 := ⟨by decide, by decide, RX4, TX4, rfl, uw4, fw_RX1_129⟩
theorem fp_RX1_129 : FLu RX1 129 4 8 .int := ⟨by decide, by decide, RX4, TX4, tyX4, rfl, uw4, fw_RX1_129, rfl, tyX4_ok 8 (by decide), tyX4_ok, nmX4⟩
theorem fw_RX4_9 : Cond.fieldLink RX4 9 (TX4 9).1 (TX4 9).2.1 (TX4 9).2.2.1 ∈ GW := (gw_1 (List.mem_of_getElem? (l := tables_1_1) (i := 113) (by decide +kernel)) rfl)
theorem fl_RX4_9 : FLk RX4 9 4 9 := ⟨by decide, by decide, RX4, TX4, rfl, uw4, fw_RX4_9⟩
theorem fw_RX1_74 : Cond.fieldLink RX1 74 (TX4 9).1 (TX4 9).2.1 (TX4 9).2.2.1 ∈ GW := (gw_1 (List.mem_of_getElem? (l := tables_1_1) (i := 114) (by decide +kernel)) rfl)
theorem fl_RX1_74 : FLk RX1 74 4 9 := ⟨by decide, by decide, RX4, TX4, rfl, uw4, fw_RX1_74⟩
theorem fw_RX10_149 : Cond.fieldLink RX10 149 (TX4 9).1 (TX4 9).2.1 (TX4 9).2.2.1 ∈ GW := (gw_1 (List.mem_of_getElem? (l := tables_1_1) (i := 115) (by decide +kernel)) rfl)
theorem fl_RX10_149 : FLk RX10 149 4 9 := ⟨by decide, by decide, RX4, TX4, rfl, uw4, fw_RX10_149⟩
theorem fw_RX1_9 : Cond.fieldLink RX1 9 (TX1 0).1 (TX1 0).2.1 (TX1 0).2.2.1 ∈ GW := (gw_1 (List.mem_of_getElem? (l := tables_1_1) (i := 137) (by decide +kernel)) rfl)
theorem fl_RX1_9 : FLk RX1 9 1 0 := ⟨by decide, by decide, RX1, TX1, rfl, uw1, fw_RX1_9⟩
theorem fp_RX1_9 : FLu RX1 9 1 0 .int := ⟨by decide, by decide, RX1, TX1, tyX1, rfl, uw1, fw_RX1_9, rfl, tyX1_ok 0 (by decide), tyX1_ok, nmX1⟩
theorem fw_RX2_74 : Cond.fieldLink RX2 74 (TX1 0).1 (TX1 0).2.1 (TX1 0).2.2.1 ∈ GW := (gw_1 (List.mem_of_getElem? (l := tables_1_1) (i := 138) (by decide +kernel)) rfl)
theorem fl_RX2_74 : FLk RX2 74 1 0 := ⟨by decide, by decide, RX1, TX1, rfl, uw1, fw_RX2_74⟩
theorem fp_RX2_74 : FLu RX2 74 1 0 .int := ⟨by decide, by decide, RX1, TX1, tyX1, rfl, uw1, fw_RX2_74, rfl, tyX1_ok 0 (by decide), tyX1_ok, nmX1⟩
theorem fw_RX10_172 : Cond.fieldLink RX10 172 (TX1 0).1 (TX1 0).2.1 (TX1 0).2.2.1 ∈ GW := (gw_1 (List.mem_of_getElem? (l := tables_1_1) (i := 139) (by decide +kernel)) rfl)
theorem fl_RX10_172 : FLk RX10 172 1 0 := ⟨by decide, by decide, RX1, TX1, rfl, uw1, fw_RX10_172⟩
theorem fp_RX10_172 : FLu RX10 172 1 0 .int := ⟨by decide, by decide, RX1, TX1, tyX1, rfl, uw1, fw_RX10_172, rfl, tyX1_ok 0 (by decide), tyX1_ok, nmX1⟩
theorem fw_RX1_15 : Cond.fieldLink RX1 15 (TX1 1).1 (TX1 1).2.1 (TX1 1).2.2.1 ∈ GW := (gw_1 (List.mem_of_getElem? (l := tables_1_1) (i := 140) (by decide +kernel)) rfl)
theorem fl_RX1_15 : FLk RX1 15 1 1 := ⟨by decide, by decide, RX1, TX1, rfl, uw1, fw_RX1_15⟩
theorem fp_RX1_15 : FLu RX1 15 1 1 .int := ⟨by decide, by decide, RX1, TX1, tyX1, rfl, uw1, fw_RX1_15, rfl, tyX1_ok 1 (by decide), tyX1_ok, nmX1⟩
theorem fw_RX2_86 : Cond.fieldLink RX2 86 (TX1 1).1 (TX1 1).2.1 (TX1 1).2.2.1 ∈ GW := (gw_1 (List.mem_of_getElem? (l := tables_1_1) (i := 141) (by decide +kernel)) rfl)
theorem fl_RX2_86 : FLk RX2 86 1 1 := ⟨by decide, by decide, RX1, TX1, rfl, uw1, fw_RX2_86⟩
theorem fp_RX2_86 : FLu RX2 86 1 1 .int := ⟨by decide, by decide, RX1, TX1, tyX1, rfl, uw1, fw_RX2_86, rfl, tyX1_ok 1 (by decide), tyX1_ok, nmX1⟩
theorem fw_RX10_181 : Cond.fieldLink RX10 181 (TX1 1).1 (TX1 1).2.1 (TX1 1).2.2.1 ∈ GW := (gw_1 (List.mem_of_getElem? (l := tables_1_1) (i := 142) (by decide +kernel)) rfl)
theorem fl_RX10_181 : FLk RX10 181 1 1 := ⟨by decide, by decide, RX1, TX1, rfl, uw1, fw_RX10_181⟩
theorem fp_RX10_181 : FLu RX10 181 1 1 .int := ⟨by decide, by decide, RX1, TX1, tyX1, rfl, uw1, fw_RX10_181, rfl, tyX1_ok 1 (by decide), tyX1_ok, nmX1⟩
theorem fw_RX1_18 : Cond.fieldLink RX1 18 (TX1 2).1 (TX1 2).2.1 (TX1 2).2.2.1 ∈ GW := (gw_1 (List.mem_of_getElem? (l := tables_1_1) (i := 143) (by decide +kernel)) rfl)
theorem fl_RX1_18 : FLk RX1 18 1 2 := ⟨by decide, by decide, RX1, TX1, rfl, uw1, fw_RX1_18⟩
theorem fp_RX1_18 : FLu RX1 18 1 2 .int := ⟨by decide, by decide, RX1, TX1, tyX1, rfl, uw1, fw_RX1_18, rfl, tyX1_ok 2 (by decide), tyX1_ok, nmX1⟩
theorem fw_RX10_184 : Cond.fieldLink RX10 184 (TX1 2).1 (TX1 2).2.1 (TX1 2).2.2.1 ∈ GW := (gw_1 (List.mem_of_getElem? (l := tables_1_1) (i := 144) (by decide +kernel)) rfl)
theorem fl_RX10_184 : FLk RX10 184 1 2 := ⟨by decide, by decide, RX1, TX1, rfl, uw1, fw_RX10_184⟩
theorem fp_RX10_184 : FLu RX10 184 1 2 .int := ⟨by decide, by decide, RX1, TX1, tyX1, rfl, uw1, fw_RX10_184, rfl, tyX1_ok 2 (by decide), tyX1_ok, nmX1⟩
theorem fw_RX1_21 : Cond.fieldLink RX1 21 (TX1 3).1 (TX1 3).2.1 (TX1 3).2.2.1 ∈ GW := (gw_1 (List.mem_of_getElem? (l := tables_1_1) (i := 145) (by decide +kernel)) rfl)
theorem fl_RX1_21 : FLk RX1 21 1 3 := ⟨by decide, by decide, RX1, TX1, rfl, uw1, fw_RX1_21⟩
theorem fp_RX1_21 : FLu RX1 21 1 3 .int := ⟨by decide, by decide, RX1, TX1, tyX1, rfl, uw1, fw_RX1_21, rfl, tyX1_ok 3 (by decide), tyX1_ok, nmX1⟩
theorem fw_RX10_187 : Cond.fieldLink RX10 187 (TX1 3).1 (TX1 3).2.1 (TX1 3).2.2.1 ∈ GW := (gw_1 (List.mem_of_getElem? (l := tables_1_1) (i := 146) (by decide +kernel)) rfl)
theorem fl_RX10_187 : FLk RX10 187 1 3 := ⟨by decide, by decide, RX1, TX1, rfl, uw1, fw_RX10_187⟩
theorem fp_RX10_187 : FLu RX10 187 1 3 .int := ⟨by decide, by decide, RX1, TX1, tyX1, rfl, uw1, fw_RX10_187, rfl, tyX1_ok 3 (by decide), tyX1_ok, nmX1⟩
theorem fw_RX1_26 : Cond.fieldLink RX1 26 (TX1 4).1 (TX1 4).2.1 (TX1 4).2.2.1 ∈ GW := (gw_1 (List.mem_of_getElem? (l := tables_1_1) (i := 147) (by decide +kernel)) rfl)
theorem fl_RX1_26 : FLk RX1 26 1 4 := ⟨by decide, by decide, RX1, TX1, rfl, uw1, fw_RX1_26⟩
theorem fw_RX10_132 : Cond.fieldLink RX10 132 (TX1 4).1 (TX1 4).2.1 (TX1 4).2.2.1 ∈ GW := (gw_1 (List.mem_of_getElem? (l := tables_1_1) (i := 148) (by decide +kernel)) rfl)
theorem fl_RX10_132 : FLk RX10 132 1 4 := ⟨by decide, by decide, RX1, TX1, rfl, uw1, fw_RX10_132⟩
theorem fw_RX1_31 : Cond.fieldLink RX1 31 (TX1 5).1 (TX1 5).2.1 (TX1 5).2.2.1 ∈ GW := (gw_1 (List.mem_of_getElem? (l := tables_1_1) (i := 149) (by decide +kernel)) rfl)
theorem fl_RX1_31 : FLk RX1 31 1 5 := ⟨by decide, by decide, RX1, TX1, rfl, uw1, fw_RX1_31⟩
theorem fp_RX1_31 : FLu RX1 31 1 5 .int := ⟨by decide, by decide, RX1, TX1, tyX1, rfl, uw1, fw_RX1_31, rfl, tyX1_ok 5 (by decide), tyX1_ok, nmX1⟩
theorem fw_RX10_128 : Cond.fieldLink RX10 128 (TX1 5).1 (TX1 5).2.1 (TX1 5).2.2.1 ∈ GW := (gw_1 (List.mem_of_getElem? (l := tables_1_1) (i := 150) (by decide +kernel)) rfl)
theorem fl_RX10_128 : FLk RX10 128 1 5 := ⟨by decide, by decide, RX1, TX1, rfl, uw1, fw_RX10_128⟩
theorem fp_RX10_128 : FLu RX10 128 1 5 .int := ⟨by decide, by decide, RX1, TX1, tyX1, rfl, uw1, fw_RX10_128, rfl, tyX1_ok 5 (by decide), tyX1_ok, nmX1⟩
theorem fw_RX1_34 : Cond.fieldLink RX1 34 (TX1 6).1 (TX1 6).2.1 (TX1 6).2.2.1 ∈ GW := (gw_1 (List.mem_of_getElem? (l := tables_1_1) (i := 151) (by decide +kernel)) rfl)
theorem fl_RX1_34 : FLk RX1 34 1 6 := ⟨by decide, by decide, RX1, TX1, rfl, uw1, fw_RX1_34⟩
theorem fw_RX1_38 : Cond.fieldLink RX1 38 (TX1 7).1 (TX1 7).2.1 (TX1 7).2.2.1 ∈ GW := (gw_1 (List.mem_of_getElem? (l := tables_1_1) (i := 152) (by decide +kernel)) rfl)
theorem fl_RX1_38 : FLk RX1 38 1 7 := ⟨by decide, by decide, RX1, TX1, rfl, uw1, fw_RX1_38⟩
theorem fw_RX1_41 : Cond.fieldLink RX1 41 (TX1 8).1 (TX1 8).2.1 (TX1 8).2.2.1 ∈ GW := (gw_1 (List.mem_of_getElem? (l := tables_1_1) (i := 153) (by decide +kernel)) rfl)
theorem fl_RX1_41 : FLk RX1 41 1 8 := ⟨by decide, by decide, RX1, TX1, rfl, uw1, fw_RX1_41⟩
theorem fw_RX1_45 : Cond.fieldLink RX1 45 (TX1 9).1 (TX1 9).2.1 (TX1 9).2.2.1 ∈ GW := (gw_1 (List.mem_of_getElem? (l := tables_1_1) (i := 154) (by decide +kernel)) rfl)
theorem fl_RX1_45 : FLk RX1 45 1 9 := ⟨by decide, by decide, RX1, TX1, rfl, uw1, fw_RX1_45⟩
theorem fw_RX10_166 : Cond.fieldLink RX10 166 (TX1 9).1 (TX1 9).2.1 (TX1 9).2.2.1 ∈ GW := (gw_1 (List.mem_of_getElem? (l := tables_1_1) (i := 155) (by decide +kernel)) rfl)
theorem fl_RX10_166 : FLk RX10 166 1 9 := ⟨by decide, by decide, RX1, TX1, rfl, uw1, fw_RX10_166⟩
theorem fw_RX9_9 : Cond.fieldLink RX9 9 (TX9 0).1 (TX9 0).2.1 (TX9 0).2.2.1 ∈ GW := (gw_1 (List.mem_of_getElem? (l := tables_1_1) (i := 186) (by decide +kernel)) rfl)
theorem fl_RX9_9 : FLk RX9 9 8 0 := ⟨by decide, by decide, RX9, TX9, rfl, uw8, fw_RX9_9⟩
theorem fw_RX10_219 : Cond.fieldLink RX10 219 (TX9 0).1 (TX9 0).2.1 (TX9 0).2.2.1 ∈ GW := (gw_1 (List.mem_of_getElem? (l := tables_1_1) (i := 187) (by decide +kernel)) rfl)
theorem fl_RX10_219 : FLk RX10 219 8 0 := ⟨by decide, by decide, RX9, TX9, rfl, uw8, fw_RX10_219⟩
theorem fw_RX9_15 : Cond.fieldLink RX9 15 (TX9 1).1 (TX9 1).2.1 (TX9 1).2.2.1 ∈ GW := (gw_1 (List.mem_of_getElem? (l := tables_1_1) (i := 188) (by decide +kernel)) rfl)
theorem fl_RX9_15 : FLk RX9 15 8 1 := ⟨by decide, by decide, RX9, TX9, rfl, uw8, fw_RX9_15⟩
theorem fw_RX10_222 : Cond.fieldLink RX10 222 (TX9 1).1 (TX9 1).2.1 (TX9 1).2.2.1 ∈ GW := (gw_1 (List.mem_of_getElem? (l := tables_1_1) (i := 189) (by decide +kernel)) rfl)
theorem fl_RX10_222 : FLk RX10 222 8 1 := ⟨by decide, by decide, RX9, TX9, rfl, uw8, fw_RX10_222⟩
theorem fw_RX9_18 : Cond.fieldLink RX9 18 (TX9 2).1 (TX9 2).2.1 (TX9 2).2.2.1 ∈ GW := (gw_1 (List.mem_of_getElem? (l := tables_1_1) (i := 190) (by decide +kernel)) rfl)
theorem fl_RX9_18 : FLk RX9 18 8 2 := ⟨by decide, by decide, RX9, TX9, rfl, uw8, fw_RX9_18⟩
theorem fw_RX10_224 : Cond.fieldLink RX10 224 (TX9 2).1 (TX9 2).2.1 (TX9 2).2.2.1 ∈ GW := (gw_1 (List.mem_of_getElem? (l := tables_1_1) (i := 191) (by decide +kernel)) rfl)
theorem fl_RX10_224 : FLk RX10 224 8 2 := ⟨by decide, by decide, RX9, TX9, rfl, uw8, fw_RX10_224⟩
theorem fw_RX9_23 : Cond.fieldLink RX9 23 (TX9 3).1 (TX9 3).2.1 (TX9 3).2.2.1 ∈ GW := (gw_1 (List.mem_of_getElem? (l := tables_1_1) (i := 192) (by decide +kernel)) rfl)
theorem fl_RX9_23 : FLk RX9 23 8 3 := ⟨by decide, by decide, RX9, TX9, rfl, uw8, fw_RX9_23⟩
theorem fw_RX9_26 : Cond.fieldLink RX9 26 (TX9 4).1 (TX9 4).2.1 (TX9 4).2.2.1 ∈ GW := (gw_1 (List.mem_of_getElem? (l := tables_1_1) (i := 193) (by decide +kernel)) rfl)
theorem fl_RX9_26 : FLk RX9 26 8 4 := ⟨by decide, by decide, RX9, TX9, rfl, uw8, fw_RX9_26⟩
theorem fw_RX9_29 : Cond.fieldLink RX9 29 (TX9 5).1 (TX9 5).2.1 (TX9 5).2.2.1 ∈ GW := (gw_1 (List.mem_of_getElem? (l := tables_1_1) (i := 194) (by decide +kernel)) rfl)
theorem fl_RX9_29 : FLk RX9 29 8 5 := ⟨by decide, by decide, RX9, TX9, rfl, uw8, fw_RX9_29⟩
theorem fp_RX9_29 : FLu RX9 29 8 5 .int := ⟨by decide, by decide, RX9, TX9, tyX9, rfl, uw8, fw_RX9_29, rfl, tyX9_ok 5 (by decide), tyX9_ok, nmX9⟩
theorem fw_RX10_346 : Cond.fieldLink RX10 346 (TX9 5).1 (TX9 5).2.1 (TX9 5).2.2.1 ∈ GW := (gw_1 (List.mem_of_getElem? (l := tables_1_1) (i := 195) (by decide +kernel)) rfl)
theorem fl_RX10_346 : FLk RX10 346 8 5 := ⟨by decide, by decide, RX9, TX9, rfl, uw8, fw_RX10_346⟩
theorem fp_RX10_346 : FLu RX10 346 8 5 .int := ⟨by decide, by decide, RX9, TX9, tyX9, rfl, uw8, fw_RX10_346, rfl, tyX9_ok 5 (by decide), tyX9_ok, nmX9⟩
theorem fw_RX9_33 : Cond.fieldLink RX9 33 (TX9 6).1 (TX9 6).2.1 (TX9 6).2.2.1 ∈ GW := (gw_1 (List.mem_of_getElem? (l := tables_1_1) (i := 196) (by decide +kernel)) rfl)
theorem fl_RX9_33 : FLk RX9 33 8 6 := ⟨by decide, by decide, RX9, TX9, rfl, uw8, fw_RX9_33⟩
theorem fw_RX9_36 : Cond.fieldLink RX9 36 (TX9 7).1 (TX9 7).2.1 (TX9 7).2.2.1 ∈ GW := (gw_1 (List.mem_of_getElem? (l := tables_1_1) (i := 197) (by decide +kernel)) rfl)
theorem fl_RX9_36 : FLk RX9 36 8 7 := ⟨by decide, by decide, RX9, TX9, rfl, uw8, fw_RX9_36⟩
theorem fw_RX3_9 : Cond.fieldLink RX3 9 (TX3 0).1 (TX3 0).2.1 (TX3 0).2.2.1 ∈ GW := (gw_1 (List.mem_of_getElem? (l := tables_1_1) (i := 221) (by decide +kernel)) rfl)
theorem fl_RX3_9 : FLk RX3 9 3 0 := ⟨by decide, by decide, RX3, TX3, rfl, uw3, fw_RX3_9⟩
theorem fw_RX3_15 : Cond.fieldLink RX3 15 (TX3 1).1 (TX3 1).2.1 (TX3 1).2.2.1 ∈ GW := (gw_1 (List.mem_of_getElem? (l := tables_1_1) (i := 222) (by decide +kernel)) rfl)
theorem fl_RX3_15 : FLk RX3 15 3 1 := ⟨by decide, by decide, RX3, TX3, rfl, uw3, fw_RX3_15⟩
theorem fw_RX10_259 : Cond.fieldLink RX10 259 (TX3 1).1 (TX3 1).2.1 (TX3 1).2.2.1 ∈ GW := (gw_1 (List.mem_of_getElem? (l := tables_1_1) (i := 223) (by decide +kernel)) rfl)
theorem fl_RX10_259 : FLk RX10 259 3 1 := ⟨by decide, by decide, RX3, TX3, rfl, uw3, fw_RX10_259⟩
theorem fw_RX3_18 : Cond.fieldLink RX3 18 (TX3 2).1 (TX3 2).2.1 (TX3 2).2.2.1 ∈ GW := (gw_1 (List.mem_of_getElem? (l := tables_1_1) (i := 224) (by decide +kernel)) rfl)
theorem fl_RX3_18 : FLk RX3 18 3 2 := ⟨by decide, by decide, RX3, TX3, rfl, uw3, fw_RX3_18⟩
theorem fp_RX3_18 : FLu RX3 18 3 2 .int := ⟨by decide, by decide, RX3, TX3, tyX3, rfl, uw3, fw_RX3_18, rfl, tyX3_ok 2 (by decide), tyX3_ok, nmX3⟩
theorem fw_RX10_267 : Cond.fieldLink RX10 267 (TX3 2).1 (TX3 2).2.1 (TX3 2).2.2.1 ∈ GW := (gw_1 (List.mem_of_getElem? (l := tables_1_1) (i := 225) (by decide +kernel)) rfl)
theorem fl_RX10_267 : FLk RX10 267 3 2 := ⟨by decide, by decide, RX3, TX3, rfl, uw3, fw_RX10_267⟩
theorem fp_RX10_267 : FLu RX10 267 3 2 .int := ⟨by decide, by decide, RX3, TX3, tyX3, rfl, uw3, fw_RX10_267, rfl, tyX3_ok 2 (by decide), tyX3_ok, nmX3⟩
theorem fw_RX3_22 : Cond.fieldLink RX3 22 (TX3 3).1 (TX3 3).2.1 (TX3 3).2.2.1 ∈ GW := (gw_1 (List.mem_of_getElem? (l := tables_1_1) (i := 226) (by decide +kernel)) rfl)
theorem fl_RX3_22 : FLk RX3 22 3 3 := ⟨by decide, by decide, RX3, TX3, rfl, uw3, fw_RX3_22⟩
theorem fp_RX3_22 : FLu RX3 22 3 3 .int := ⟨by decide, by decide, RX3, TX3, tyX3, rfl, uw3, fw_RX3_22, rfl, tyX3_ok 3 (by decide), tyX3_ok, nmX3⟩
theorem fw_RX2_135 : Cond.fieldLink RX2 135 (TX3 3).1 (TX3 3).2.1 (TX3 3).2.2.1 ∈ GW := (gw_1 (List.mem_of_getElem? (l := tables_1_1) (i := 227) (by decide +kernel)) rfl)
theorem fl_RX2_135 : FLk RX2 135 3 3 := ⟨by decide, by decide, RX3, TX3, rfl, uw3, fw_RX2_135⟩
theorem fp_RX2_135 : FLu RX2 135 3 3 .int := ⟨by decide, by decide, RX3, TX3, tyX3, rfl, uw3, fw_RX2_135, rfl, tyX3_ok 3 (by decide), tyX3_ok, nmX3⟩
theorem fw_RX2_12 : Cond.fieldLink RX2 12 (TX2 0).1 (TX2 0).2.1 (TX2 0).2.2.1 ∈ GW := (gw_1 (List.mem_of_getElem? (l := tables_1_1) (i := 237) (by decide +kernel)) rfl)
theorem fl_RX2_12 : FLk RX2 12 2 0 := ⟨by decide, by decide, RX2, TX2, rfl, uw2, fw_RX2_12⟩
theorem fw_RX10_68 : Cond.fieldLink RX10 68 (TX2 0).1 (TX2 0).2.1 (TX2 0).2.2.1 ∈ GW := (gw_1 (List.mem_of_getElem? (l := tables_1_1) (i := 238) (by decide +kernel)) rfl)
theorem fl_RX10_68 : FLk RX10 68 2 0 := ⟨by decide, by decide, RX2, TX2, rfl, uw2, fw_RX10_68⟩
theorem fw_RX2_21 : Cond.fieldLink RX2 21 (TX2 1).1 (TX2 1).2.1 (TX2 1).2.2.1 ∈ GW := (gw_1 (List.mem_of_getElem? (l := tables_1_1) (i := 239) (by decide +kernel)) rfl)
theorem fl_RX2_21 : FLk RX2 21 2 1 := ⟨by decide, by decide, RX2, TX2, rfl, uw2, fw_RX2_21⟩
theorem fw_RX10_117 : Cond.fieldLink RX10 117 (TX2 1).1 (TX2 1).2.1 (TX2 1).2.2.1 ∈ GW := (gw_2 (List.mem_of_getElem? (l := tables_1_2) (i := 0) (by decide +kernel)) rfl)
theorem fl_RX10_117 : FLk RX10 117 2 1 := ⟨by decide, by decide, RX2, TX2, rfl, uw2, fw_RX10_117⟩
theorem fw_RX2_28 : Cond.fieldLink RX2 28 (TX2 2).1 (TX2 2).2.1 (TX2 2).2.2.1 ∈ GW := (gw_2 (List.mem_of_getElem? (l := tables_1_2) (i := 1) (by decide +kernel)) rfl)
theorem fl_RX2_28 : FLk RX2 28 2 2 := ⟨by decide, by decide, RX2, TX2, rfl, uw2, fw_RX2_28⟩
theorem fw_RX10_209 : Cond.fieldLink RX10 209 (TX2 2).1 (TX2 2).2.1 (TX2 2).2.2.1 ∈ GW := (gw_2 (List.mem_of_getElem? (l := tables_1_2) (i := 2) (by decide +kernel)) rfl)
theorem fl_RX10_209 : FLk RX10 209 2 2 := ⟨by decide, by decide, RX2, TX2, rfl, uw2, fw_RX10_209⟩
theorem fw_RX2_35 : Cond.fieldLink RX2 35 (TX2 3).1 (TX2 3).2.1 (TX2 3).2.2.1 ∈ GW := (gw_2 (List.mem_of_getElem? (l := tables_1_2) (i := 3) (by decide +kernel)) rfl)
theorem fl_RX2_35 : FLk RX2 35 2 3 := ⟨by decide, by decide, RX2, TX2, rfl, uw2, fw_RX2_35⟩
theorem fw_RX10_250 : Cond.fieldLink RX10 250 (TX2 3).1 (TX2 3).2.1 (TX2 3).2.2.1 ∈ GW := (gw_2 (List.mem_of_getElem? (l := tables_1_2) (i := 4) (by decide +kernel)) rfl)
theorem fl_RX10_250 : FLk RX10 250 2 3 := ⟨by decide, by decide, RX2, TX2, rfl, uw2, fw_RX10_250⟩
theorem fw_RX2_39 : Cond.fieldLink RX2 39 (TX2 4).1 (TX2 4).2.1 (TX2 4).2.2.1 ∈ GW := (gw_2 (List.mem_of_getElem? (l := tables_1_2) (i := 5) (by decide +kernel)) rfl)
theorem fl_RX2_39 : FLk RX2 39 2 4 := ⟨by decide, by decide, RX2, TX2, rfl, uw2, fw_RX2_39⟩
theorem fw_RX10_113 : Cond.fieldLink RX10 113 (TX2 4).1 (TX2 4).2.1 (TX2 4).2.2.1 ∈ GW := (gw_2 (List.mem_of_getElem? (l := tables_1_2) (i := 6) (by decide +kernel)) rfl)
theorem fl_RX10_113 : FLk RX10 113 2 4 := ⟨by decide, by decide, RX2, TX2, rfl, uw2, fw_RX10_113⟩
theorem fw_RX8_9 : Cond.fieldLink RX8 9 (TX8 0).1 (TX8 0).2.1 (TX8 0).2.2.1 ∈ GW := (gw_2 (List.mem_of_getElem? (l := tables_1_2) (i := 26) (by decide +kernel)) rfl)
theorem fl_RX8_9 : FLk RX8 9 7 0 := ⟨by decide, by decide, RX8, TX8, rfl, uw7, fw_RX8_9⟩
theorem fw_RX8_15 : Cond.fieldLink RX8 15 (TX8 1).1 (TX8 1).2.1 (TX8 1).2.2.1 ∈ GW := (gw_2 (List.mem_of_getElem? (l := tables_1_2) (i := 27) (by decide +kernel)) rfl)
theorem fl_RX8_15 : FLk RX8 15 7 1 := ⟨by decide, by decide, RX8, TX8, rfl, uw7, fw_RX8_15⟩
theorem fp_RX8_15 : FLu RX8 15 7 1 .int := ⟨by decide, by decide, RX8, TX8, tyX8, rfl, uw7, fw_RX8_15, rfl, tyX8_ok 1 (by decide), tyX8_ok, nmX8⟩
theorem fw_RX10_200 : Cond.fieldLink RX10 200 (TX8 1).1 (TX8 1).2.1 (TX8 1).2.2.1 ∈ GW := (gw_2 (List.mem_of_getElem? (l := tables_1_2) (i := 28) (by decide +kernel)) rfl)
theorem fl_RX10_200 : FLk RX10 200 7 1 := ⟨by decide, by decide, RX8, TX8, rfl, uw7, fw_RX10_200⟩
theorem fp_RX10_200 : FLu RX10 200 7 1 .int := ⟨by decide, by decide, RX8, TX8, tyX8, rfl, uw7, fw_RX10_200, rfl, tyX8_ok 1 (by decide), tyX8_ok, nmX8⟩
theorem fw_RX8_32 : Cond.fieldLink RX8 32 (TX8 2).1 (TX8 2).2.1 (TX8 2).2.2.1 ∈ GW := (gw_2 (List.mem_of_getElem? (l := tables_1_2) (i := 29) (by decide +kernel)) rfl)
theorem fl_RX8_32 : FLk RX8 32 7 2 := ⟨by decide, by decide, RX8, TX8, rfl, uw7, fw_RX8_32⟩
theorem fp_RX8_32 : FLu RX8 32 7 2 .int := ⟨by decide, by decide, RX8, TX8, tyX8, rfl, uw7, fw_RX8_32, rfl, tyX8_ok 2 (by decide), tyX8_ok, nmX8⟩
theorem fw_RX8_58 : Cond.fieldLink RX8 58 (TX8 3).1 (TX8 3).2.1 (TX8 3).2.2.1 ∈ GW := (gw_2 (List.mem_of_getElem? (l := tables_1_2) (i := 30) (by decide +kernel)) rfl)
theorem fl_RX8_58 : FLk RX8 58 7 3 := ⟨by decide, by decide, RX8, TX8, rfl, uw7, fw_RX8_58⟩
theorem fp_RX8_58 : FLu RX8 58 7 3 .int := ⟨by decide, by decide, RX8, TX8, tyX8, rfl, uw7, fw_RX8_58, rfl, tyX8_ok 3 (by decide), tyX8_ok, nmX8⟩
theorem fw_RX8_38 : Cond.fieldLink RX8 38 (TX8 4).1 (TX8 4).2.1 (TX8 4).2.2.1 ∈ GW := (gw_2 (List.mem_of_getElem? (l := tables_1_2) (i := 31) (by decide +kernel)) rfl)
theorem fl_RX8_38 : FLk RX8 38 7 4 := ⟨by decide, by decide, RX8, TX8, rfl, uw7, fw_RX8_38⟩
theorem fp_RX8_38 : FLu RX8 38 7 4 .int := ⟨by decide, by decide, RX8, TX8, tyX8, rfl, uw7, fw_RX8_38, rfl, tyX8_ok 4 (by decide), tyX8_ok, nmX8⟩
theorem fw_RX8_73 : Cond.fieldLink RX8 73 (TX8 5).1 (TX8 5).2.1 (TX8 5).2.2.1 ∈ GW := (gw_2 (List.mem_of_getElem? (l := tables_1_2) (i := 32) (by decide +kernel)) rfl)
theorem fl_RX8_73 : FLk RX8 73 7 5 := ⟨by decide, by decide, RX8, TX8, rfl, uw7, fw_RX8_73⟩
theorem fp_RX8_73 : FLu RX8 73 7 5 .boolean := ⟨by decide, by decide, RX8, TX8, tyX8, rfl, uw7, fw_RX8_73, rfl, tyX8_ok 5 (by decide), tyX8_ok, nmX8⟩
theorem fw_RX9_46 : Cond.fieldLink RX9 46 (TX8 6).1 (TX8 6).2.1 (TX8 6).2.2.1 ∈ GW := (gw_2 (List.mem_of_getElem? (l := tables_1_2) (i := 33) (by decide +kernel)) rfl)
theorem fl_RX9_46 : FLk RX9 46 7 6 := ⟨by decide, by decide, RX8, TX8, rfl, uw7, fw_RX9_46⟩
theorem fp_RX9_46 : FLu RX9 46 7 6 .int := ⟨by decide, by decide, RX8, TX8, tyX8, rfl, uw7, fw_RX9_46, rfl, tyX8_ok 6 (by decide), tyX8_ok, nmX8⟩
theorem fw_RX8_84 : Cond.fieldLink RX8 84 (TX8 6).1 (TX8 6).2.1 (TX8 6).2.2.1 ∈ GW := (gw_2 (List.mem_of_getElem? (l := tables_1_2) (i := 34) (by decide +kernel)) rfl)
theorem fl_RX8_84 : FLk RX8 84 7 6 := ⟨by decide, by decide, RX8, TX8, rfl, uw7, fw_RX8_84⟩
theorem fp_RX8_84 : FLu RX8 84 7 6 .int := ⟨by decide, by decide, RX8, TX8, tyX8, rfl, uw7, fw_RX8_84, rfl, tyX8_ok 6 (by decide), tyX8_ok, nmX8⟩
theorem fw_RX9_50 : Cond.fieldLink RX9 50 (TX8 7).1 (TX8 7).2.1 (TX8 7).2.2.1 ∈ GW := (gw_2 (List.mem_of_getElem? (l := tables_1_2) (i := 35) (by decide +kernel)) rfl)
theorem fl_RX9_50 : FLk RX9 50 7 7 := ⟨by decide, by decide, RX8, TX8, rfl, uw7, fw_RX9_50⟩
theorem fp_RX9_50 : FLu RX9 50 7 7 .int := ⟨by decide, by decide, RX8, TX8, tyX8, rfl, uw7, fw_RX9_50, rfl, tyX8_ok 7 (by decide), tyX8_ok, nmX8⟩
theorem fw_RX8_88 : Cond.fieldLink RX8 88 (TX8 7).1 (TX8 7).2.1 (TX8 7).2.2.1 ∈ GW := (gw_2 (List.mem_of_getElem? (l := tables_1_2) (i := 36) (by decide +kernel)) rfl)
theorem fl_RX8_88 : FLk RX8 88 7 7 := ⟨by decide, by decide, RX8, TX8, rfl, uw7, fw_RX8_88⟩
theorem fp_RX8_88 : FLu RX8 88 7 7 .int := ⟨by decide, by decide, RX8, TX8, tyX8, rfl, uw7, fw_RX8_88, rfl, tyX8_ok 7 (by decide), tyX8_ok, nmX8⟩
theorem fw_RX8_61 : Cond.fieldLink RX8 61 (TX8 8).1 (TX8 8).2.1 (TX8 8).2.2.1 ∈ GW := (gw_2 (List.mem_of_getElem? (l := tables_1_2) (i := 37) (by decide +kernel)) rfl)
theorem fl_RX8_61 : FLk RX8 61 7 8 := ⟨by decide, by decide, RX8, TX8, rfl, uw7, fw_RX8_61⟩
theorem fp_RX8_61 : FLu RX8 61 7 8 .int := ⟨by decide, by decide, RX8, TX8, tyX8, rfl, uw7, fw_RX8_61, rfl, tyX8_ok 8 (by decide), tyX8_ok, nmX8⟩
theorem fw_RX9_52 : Cond.fieldLink RX9 52 (TX8 8).1 (TX8 8).2.1 (TX8 8).2.2.1 ∈ GW := (gw_2 (List.mem_of_getElem? (l := tables_1_2) (i := 38) (by decide +kernel)) rfl)
theorem fl_RX9_52 : FLk RX9 52 7 8 := ⟨by decide, by decide, RX8, TX8, rfl, uw7, fw_RX9_52⟩
theorem fp_RX9_52 : FLu RX9 52 7 8 .int := ⟨by decide, by decide, RX8, TX8, tyX8, rfl, uw7, fw_RX9_52, rfl, tyX8_ok 8 (by decide), tyX8_ok, nmX8⟩
theorem fw_RX8_19 : Cond.fieldLink RX8 19 (TX8 9).1 (TX8 9).2.1 (TX8 9).2.2.1 ∈ GW := (gw_2 (List.mem_of_getElem? (l := tables_1_2) (i := 39) (by decide +kernel)) rfl)
theorem fl_RX8_19 : FLk RX8 19 7 9 := ⟨by decide, by decide, RX8, TX8, rfl, uw7, fw_RX8_19⟩
theorem fw_RX9_56 : Cond.fieldLink RX9 56 (TX8 9).1 (TX8 9).2.1 (TX8 9).2.2.1 ∈ GW := (gw_2 (List.mem_of_getElem? (l := tables_1_2) (i := 40) (by decide +kernel)) rfl)
theorem fl_RX9_56 : FLk RX9 56 7 9 := ⟨by decide, by decide, RX8, TX8, rfl, uw7, fw_RX9_56⟩
theorem fw_RX8_64 : Cond.fieldLink RX8 64 (TX8 10).1 (TX8 10).2.1 (TX8 10).2.2.1 ∈ GW := (gw_2 (List.mem_of_getElem? (l := tables_1_2) (i := 41) (by decide +kernel)) rfl)
theorem fl_RX8_64 : FLk RX8 64 7 10 := ⟨by decide, by decide, RX8, TX8, rfl, uw7, fw_RX8_64⟩
theorem fp_RX8_64 : FLu RX8 64 7 10 .int := ⟨by decide, by decide, RX8, TX8, tyX8, rfl, uw7, fw_RX8_64, rfl, tyX8_ok 10 (by decide), tyX8_ok, nmX8⟩
theorem fw_RX9_54 : Cond.fieldLink RX9 54 (TX8 10).1 (TX8 10).2.1 (TX8 10).2.2.1 ∈ GW := (gw_2 (List.mem_of_getElem? (l := tables_1_2) (i := 42) (by decide +kernel)) rfl)
theorem fl_RX9_54 : FLk RX9 54 7 10 := ⟨by decide, by decide, RX8, TX8, rfl, uw7, fw_RX9_54⟩
theorem fp_RX9_54 : FLu RX9 54 7 10 .int := ⟨by decide, by decide, RX8, TX8, tyX8, rfl, uw7, fw_RX9_54, rfl, tyX8_ok 10 (by decide), tyX8_ok, nmX8⟩
theorem fw_RX8_22 : Cond.fieldLink RX8 22 (TX8 11).1 (TX8 11).2.1 (TX8 11).2.2.1 ∈ GW := (gw_2 (List.mem_of_getElem? (l := tables_1_2) (i := 43) (by decide +kernel)) rfl)
theorem fl_RX8_22 : FLk RX8 22 7 11 := ⟨by decide, by decide, RX8, TX8, rfl, uw7, fw_RX8_22⟩
theorem fw_RX8_67 : Cond.fieldLink RX8 67 (TX8 12).1 (TX8 12).2.1 (TX8 12).2.2.1 ∈ GW := (gw_2 (List.mem_of_getElem? (l := tables_1_2) (i := 44) (by decide +kernel)) rfl)
theorem fl_RX8_67 : FLk RX8 67 7 12 := ⟨by decide, by decide, RX8, TX8, rfl, uw7, fw_RX8_67⟩
theorem fp_RX8_67 : FLu RX8 67 7 12 .int := ⟨by decide, by decide, RX8, TX8, tyX8, rfl, uw7, fw_RX8_67, rfl, tyX8_ok 12 (by decide), tyX8_ok, nmX8⟩
theorem fw_RX8_51 : Cond.fieldLink RX8 51 (TX8 13).1 (TX8 13).2.1 (TX8 13).2.2.1 ∈ GW := (gw_2 (List.mem_of_getElem? (l := tables_1_2) (i := 45) (by decide +kernel)) rfl)
theorem fl_RX8_51 : FLk RX8 51 7 13 := ⟨by decide, by decide, RX8, TX8, rfl, uw7, fw_RX8_51⟩
theorem fp_RX8_51 : FLu RX8 51 7 13 .int := ⟨by decide, by decide, RX8, TX8, tyX8, rfl, uw7, fw_RX8_51, rfl, tyX8_ok 13 (by decide), tyX8_ok, nmX8⟩
theorem fw_RX8_70 : Cond.fieldLink RX8 70 (TX8 14).1 (TX8 14).2.1 (TX8 14).2.2.1 ∈ GW := (gw_2 (List.mem_of_getElem? (l := tables_1_2) (i := 46) (by decide +kernel)) rfl)
theorem fl_RX8_70 : FLk RX8 70 7 14 := ⟨by decide, by decide, RX8, TX8, rfl, uw7, fw_RX8_70⟩
theorem fp_RX8_70 : FLu RX8 70 7 14 .int := ⟨by decide, by decide, RX8, TX8, tyX8, rfl, uw7, fw_RX8_70, rfl, tyX8_ok 14 (by decide), tyX8_ok, nmX8⟩
theorem fw_RX8_41 : Cond.fieldLink RX8 41 (TX8 15).1 (TX8 15).2.1 (TX8 15).2.2.1 ∈ GW := (gw_2 (List.mem_of_getElem? (l := tables_1_2) (i := 47) (by decide +kernel)) rfl)
theorem fl_RX8_41 : FLk RX8 41 7 15 := ⟨by decide, by decide, RX8, TX8, rfl, uw7, fw_RX8_41⟩
theorem fp_RX8_41 : FLu RX8 41 7 15 .boolean := ⟨by decide, by decide, RX8, TX8, tyX8, rfl, uw7, fw_RX8_41, rfl, tyX8_ok 15 (by decide), tyX8_ok, nmX8⟩
theorem fw_RX5_9 : Cond.fieldLink RX5 9 (TX5 0).1 (TX5 0).2.1 (TX5 0).2.2.1 ∈ GW := (gw_2 (List.mem_of_getElem? (l := tables_1_2) (i := 88) (by decide +kernel)) rfl)
theorem fl_RX5_9 : FLk RX5 9 5 0 := ⟨by decide, by decide, RX5, TX5, rfl, uw5, fw_RX5_9⟩
theorem fp_RX5_9 : FLu RX5 9 5 0 .int := ⟨by decide, by decide, RX5, TX5, tyX5, rfl, uw5, fw_RX5_9, rfl, tyX5_ok 0 (by decide), tyX5_ok, nmX5⟩
theorem fw_RX10_278 : Cond.fieldLink RX10 278 (TX5 0).1 (TX5 0).2.1 (TX5 0).2.2.1 ∈ GW := (gw_2 (List.mem_of_getElem? (l := tables_1_2) (i := 89) (by decide +kernel)) rfl)
theorem fl_RX10_278 : FLk RX10 278 5 0 := ⟨by decide, by decide, RX5, TX5, rfl, uw5, fw_RX10_278⟩
theorem fp_RX10_278 : FLu RX10 278 5 0 .int := ⟨by decide, by decide, RX5, TX5, tyX5, rfl, uw5, fw_RX10_278, rfl, tyX5_ok 0 (by decide), tyX5_ok, nmX5⟩
theorem fw_RX5_15 : Cond.fieldLink RX5 15 (TX5 1).1 (TX5 1).2.1 (TX5 1).2.2.1 ∈ GW := (gw_2 (List.mem_of_getElem? (l := tables_1_2) (i := 90) (by decide +kernel)) rfl)
theorem fl_RX5_15 : FLk RX5 15 5 1 := ⟨by decide, by decide, RX5, TX5, rfl, uw5, fw_RX5_15⟩
theorem fp_RX5_15 : FLu RX5 15 5 1 .int := ⟨by decide, by decide, RX5, TX5, tyX5, rfl, uw5, fw_RX5_15, rfl, tyX5_ok 1 (by decide), tyX5_ok, nmX5⟩
theorem fw_RX10_297 : Cond.fieldLink RX10 297 (TX5 1).1 (TX5 1).2.1 (TX5 1).2.2.1 ∈ GW := (gw_2 (List.mem_of_getElem? (l := tables_1_2) (i := 91) (by decide +kernel)) rfl)
theorem fl_RX10_297 : FLk RX10 297 5 1 := ⟨by decide, by decide, RX5, TX5, rfl, uw5, fw_RX10_297⟩
theorem fp_RX10_297 : FLu RX10 297 5 1 .int := ⟨by decide, by decide, RX5, TX5, tyX5, rfl, uw5, fw_RX10_297, rfl, tyX5_ok 1 (by decide), tyX5_ok, nmX5⟩
theorem fw_RX5_18 : Cond.fieldLink RX5 18 (TX5 2).1 (TX5 2).2.1 (TX5 2).2.2.1 ∈ GW := (gw_2 (List.mem_of_getElem? (l := tables_1_2) (i := 92) (by decide +kernel)) rfl)
theorem fl_RX5_18 : FLk RX5 18 5 2 := ⟨by decide, by decide, RX5, TX5, rfl, uw5, fw_RX5_18⟩
theorem fw_RX10_301 : Cond.fieldLink RX10 301 (TX5 2).1 (TX5 2).2.1 (TX5 2).2.2.1 ∈ GW := (gw_2 (List.mem_of_getElem? (l := tables_1_2) (i := 93) (by decide +kernel)) rfl)
theorem fl_RX10_301 : FLk RX10 301 5 2 := ⟨by decide, by decide, RX5, TX5, rfl, uw5, fw_RX10_301⟩
theorem fw_RX5_22 : Cond.fieldLink RX5 22 (TX5 3).1 (TX5 3).2.1 (TX5 3).2.2.1 ∈ GW := (gw_2 (List.mem_of_getElem? (l := tables_1_2) (i := 94) (by decide +kernel)) rfl)
theorem fl_RX5_22 : FLk RX5 22 5 3 := ⟨by decide, by decide, RX5, TX5, rfl, uw5, fw_RX5_22⟩
theorem fw_RX10_310 : Cond.fieldLink RX10 310 (TX5 3).1 (TX5 3).2.1 (TX5 3).2.2.1 ∈ GW := (gw_2 (List.mem_of_getElem? (l := tables_1_2) (i := 95) (by decide +kernel)) rfl)
theorem fl_RX10_310 : FLk RX10 310 5 3 := ⟨by decide, by decide, RX5, TX5, rfl, uw5, fw_RX10_310⟩
theorem fw_RX6_9 : Cond.fieldLink RX6 9 (TX6 0).1 (TX6 0).2.1 (TX6 0).2.2.1 ∈ GW := (gw_2 (List.mem_of_getElem? (l := tables_1_2) (i := 115) (by decide +kernel)) rfl)
theorem fl_RX6_9 : FLk RX6 9 6 0 := ⟨by decide, by decide, RX6, TX6, rfl, uw6, fw_RX6_9⟩
theorem fp_RX6_9 : FLu RX6 9 6 0 .int := ⟨by decide, by decide, RX6, TX6, tyX6, rfl, uw6, fw_RX6_9, rfl, tyX6_ok 0 (by decide), tyX6_ok, nmX6⟩
theorem fw_RX10_317 : Cond.fieldLink RX10 317 (TX6 0).1 (TX6 0).2.1 (TX6 0).2.2.1 ∈ GW := (gw_2 (List.mem_of_getElem? (l := tables_1_2) (i := 116) (by decide +kernel)) rfl)
theorem fl_RX10_317 : FLk RX10 317 6 0 := ⟨by decide, by decide, RX6, TX6, rfl, uw6, fw_RX10_317⟩
theorem fp_RX10_317 : FLu RX10 317 6 0 .int := ⟨by decide, by decide, RX6, TX6, tyX6, rfl, uw6, fw_RX10_317, rfl, tyX6_ok 0 (by decide), tyX6_ok, nmX6⟩
theorem fw_RX10_320 : Cond.fieldLink RX10 320 (TX6 1).1 (TX6 1).2.1 (TX6 1).2.2.1 ∈ GW := (gw_2 (List.mem_of_getElem? (l := tables_1_2) (i := 117) (by decide +kernel)) rfl)
theorem fl_RX10_320 : FLk RX10 320 6 1 := ⟨by decide, by decide, RX6, TX6, rfl, uw6, fw_RX10_320⟩
theorem fp_RX10_320 : FLu RX10 320 6 1 .int := ⟨by decide, by decide, RX6, TX6, tyX6, rfl, uw6, fw_RX10_320, rfl, tyX6_ok 1 (by decide), tyX6_ok, nmX6⟩
theorem fw_RX10_322 : Cond.fieldLink RX10 322 (TX6 2).1 (TX6 2).2.1 (TX6 2).2.2.1 ∈ GW := (gw_2 (List.mem_of_getElem? (l := tables_1_2) (i := 118) (by decide +kernel)) rfl)
theorem fl_RX10_322 : FLk RX10 322 6 2 := ⟨by decide, by decide, RX6, TX6, rfl, uw6, fw_RX10_322⟩
theorem fp_RX10_322 : FLu RX10 322 6 2 .int := ⟨by decide, by decide, RX6, TX6, tyX6, rfl, uw6, fw_RX10_322, rfl, tyX6_ok 2 (by decide), tyX6_ok, nmX6⟩
theorem fw_RX10_331 : Cond.fieldLink RX10 331 (TX6 3).1 (TX6 3).2.1 (TX6 3).2.2.1 ∈ GW := (gw_2 (List.mem_of_getElem? (l := tables_1_2) (i := 119) (by decide +kernel)) rfl)
theorem fl_RX10_331 : FLk RX10 331 6 3 := ⟨by decide, by decide, RX6, TX6, rfl, uw6, fw_RX10_331⟩
theorem fp_RX10_331 : FLu RX10 331 6 3 .int := ⟨by decide, by decide, RX6, TX6, tyX6, rfl, uw6, fw_RX10_331, rfl, tyX6_ok 3 (by decide), tyX6_ok, nmX6⟩
theorem fw_RX6_18 : Cond.fieldLink RX6 18 (TX6 4).1 (TX6 4).2.1 (TX6 4).2.2.1 ∈ GW := (gw_2 (List.mem_of_getElem? (l := tables_1_2) (i := 120) (by decide +kernel)) rfl)
theorem fl_RX6_18 : FLk RX6 18 6 4 := ⟨by decide, by decide, RX6, TX6, rfl, uw6, fw_RX6_18⟩
theorem fw_RX10_324 : Cond.fieldLink RX10 324 (TX6 4).1 (TX6 4).2.1 (TX6 4).2.2.1 ∈ GW := (gw_2 (List.mem_of_getElem? (l := tables_1_2) (i := 121) (by decide +kernel)) rfl)
theorem fl_RX10_324 : FLk RX10 324 6 4 := ⟨by decide, by decide, RX6, TX6, rfl, uw6, fw_RX10_324⟩
theorem fw_RX10_10 : Cond.fieldLink RX10 10 (TX10 0).1 (TX10 0).2.1 (TX10 0).2.2.1 ∈ GW := (gw_2 (List.mem_of_getElem? (l := tables_1_2) (i := 133) (by decide +kernel)) rfl)
theorem fl_RX10_10 : FLk RX10 10 9 0 := ⟨by decide, by decide, RX10, TX10, rfl, uw9, fw_RX10_10⟩
theorem fw_RX10_16 : Cond.fieldLink RX10 16 (TX10 1).1 (TX10 1).2.1 (TX10 1).2.2.1 ∈ GW := (gw_2 (List.mem_of_getElem? (l := tables_1_2) (i := 134) (by decide +kernel)) rfl)
theorem fl_RX10_16 : FLk RX10 16 9 1 := ⟨by decide, by decide, RX10, TX10, rfl, uw9, fw_RX10_16⟩
theorem fw_RX10_19 : Cond.fieldLink RX10 19 (TX10 2).1 (TX10 2).2.1 (TX10 2).2.2.1 ∈ GW := (gw_2 (List.mem_of_getElem? (l := tables_1_2) (i := 135) (by decide +kernel)) rfl)
theorem fl_RX10_19 : FLk RX10 19 9 2 := ⟨by decide, by decide, RX10, TX10, rfl, uw9, fw_RX10_19⟩
theorem fp_RX10_19 : FLu RX10 19 9 2 .boolean := ⟨by decide, by decide, RX10, TX10, tyX10, rfl, uw9, fw_RX10_19, rfl, tyX10_ok 2 (by decide), tyX10_ok, nmX10⟩
theorem fw_RX10_26 : Cond.fieldLink RX10 26 (TX10 3).1 (TX10 3).2.1 (TX10 3).2.2.1 ∈ GW := (gw_2 (List.mem_of_getElem? (l := tables_1_2) (i := 136) (by decide +kernel)) rfl)
theorem fl_RX10_26 : FLk RX10 26 9 3 := ⟨by decide, by decide, RX10, TX10, rfl, uw9, fw_RX10_26⟩
theorem fw_RX10_33 : Cond.fieldLink RX10 33 (TX10 4).1 (TX10 4).2.1 (TX10 4).2.2.1 ∈ GW := (gw_2 (List.mem_of_getElem? (l := tables_1_2) (i := 137) (by decide +kernel)) rfl)
theorem fl_RX10_33 : FLk RX10 33 9 4 := ⟨by decide, by decide, RX10, TX10, rfl, uw9, fw_RX10_33⟩
theorem fw_RX10_39 : Cond.fieldLink RX10 39 (TX10 5).1 (TX10 5).2.1 (TX10 5).2.2.1 ∈ GW := (gw_2 (List.mem_of_getElem? (l := tables_1_2) (i := 138) (by decide +kernel)) rfl)
theorem fl_RX10_39 : FLk RX10 39 9 5 := ⟨by decide, by decide, RX10, TX10, rfl, uw9, fw_RX10_39⟩
theorem fw_RX10_46 : Cond.fieldLink RX10 46 (TX10 6).1 (TX10 6).2.1 (TX10 6).2.2.1 ∈ GW := (gw_2 (List.mem_of_getElem? (l := tables_1_2) (i := 139) (by decide +kernel)) rfl)
theorem fl_RX10_46 : FLk RX10 46 9 6 := ⟨by decide, by decide, RX10, TX10, rfl, uw9, fw_RX10_46⟩
theorem fw_RX10_51 : Cond.fieldLink RX10 51 (TX10 7).1 (TX10 7).2.1 (TX10 7).2.2.1 ∈ GW := (gw_2 (List.mem_of_getElem? (l := tables_1_2) (i := 140) (by decide +kernel)) rfl)
theorem fl_RX10_51 : FLk RX10 51 9 7 := ⟨by decide, by decide, RX10, TX10, rfl, uw9, fw_RX10_51⟩
theorem fw_RX10_55 : Cond.fieldLink RX10 55 (TX10 8).1 (TX10 8).2.1 (TX10 8).2.2.1 ∈ GW := (gw_2 (List.mem_of_getElem? (l := tables_1_2) (i := 141) (by decide +kernel)) rfl)
theorem fl_RX10_55 : FLk RX10 55 9 8 := ⟨by decide, by decide, RX10, TX10, rfl, uw9, fw_RX10_55⟩
theorem fp_RX10_55 : FLu RX10 55 9 8 .int := ⟨by decide, by decide, RX10, TX10, tyX10, rfl, uw9, fw_RX10_55, rfl, tyX10_ok 8 (by decide), tyX10_ok, nmX10⟩
theorem fs_RX7_9 : Cond.fieldLink RX7 9 "BurdenHouse$Stuff" "ABOVE" "[I" ∈ GW := (gw_2 (List.mem_of_getElem? (l := tables_1_2) (i := 214) (by decide +kernel)) rfl)
theorem fs_RX1_58 : Cond.fieldLink RX1 58 "BurdenHouse$Furnace" "AREAS" "[I" ∈ GW := (gw_3 (List.mem_of_getElem? (l := tables_1_3) (i := 39) (by decide +kernel)) rfl)
theorem fw_RX11_7 : Cond.fieldLink RX11 7 (TX11 0).1 (TX11 0).2.1 (TX11 0).2.2.1 ∈ GW := (gw_5 (List.mem_of_getElem? (l := tables_1_5) (i := 160) (by decide +kernel)) rfl)
theorem fl_RX11_7 : FLk RX11 7 10 0 := ⟨by decide, by decide, RX11, TX11, rfl, uw10, fw_RX11_7⟩
theorem fw_RX11_13 : Cond.fieldLink RX11 13 (TX11 1).1 (TX11 1).2.1 (TX11 1).2.2.1 ∈ GW := (gw_5 (List.mem_of_getElem? (l := tables_1_5) (i := 161) (by decide +kernel)) rfl)
theorem fl_RX11_13 : FLk RX11 13 10 1 := ⟨by decide, by decide, RX11, TX11, rfl, uw10, fw_RX11_13⟩
theorem fw_RX11_16 : Cond.fieldLink RX11 16 (TX11 2).1 (TX11 2).2.1 (TX11 2).2.2.1 ∈ GW := (gw_5 (List.mem_of_getElem? (l := tables_1_5) (i := 162) (by decide +kernel)) rfl)
theorem fl_RX11_16 : FLk RX11 16 10 2 := ⟨by decide, by decide, RX11, TX11, rfl, uw10, fw_RX11_16⟩
theorem fw_RX11_340 : Cond.fieldLink RX11 340 (TX11 3).1 (TX11 3).2.1 (TX11 3).2.2.1 ∈ GW := (gw_5 (List.mem_of_getElem? (l := tables_1_5) (i := 163) (by decide +kernel)) rfl)
theorem fl_RX11_340 : FLk RX11 340 10 3 := ⟨by decide, by decide, RX11, TX11, rfl, uw10, fw_RX11_340⟩
theorem fp_RX11_340 : FLu RX11 340 10 3 .boolean := ⟨by decide, by decide, RX11, TX11, tyX11, rfl, uw10, fw_RX11_340, rfl, tyX11_ok 3 (by decide), tyX11_ok, nmX11⟩
theorem fw_RX11_19 : Cond.fieldLink RX11 19 (TX11 4).1 (TX11 4).2.1 (TX11 4).2.2.1 ∈ GW := (gw_5 (List.mem_of_getElem? (l := tables_1_5) (i := 164) (by decide +kernel)) rfl)
theorem fl_RX11_19 : FLk RX11 19 10 4 := ⟨by decide, by decide, RX11, TX11, rfl, uw10, fw_RX11_19⟩
theorem fw_RX11_22 : Cond.fieldLink RX11 22 (TX11 5).1 (TX11 5).2.1 (TX11 5).2.2.1 ∈ GW := (gw_5 (List.mem_of_getElem? (l := tables_1_5) (i := 165) (by decide +kernel)) rfl)
theorem fl_RX11_22 : FLk RX11 22 10 5 := ⟨by decide, by decide, RX11, TX11, rfl, uw10, fw_RX11_22⟩
theorem fw_RX11_25 : Cond.fieldLink RX11 25 (TX11 6).1 (TX11 6).2.1 (TX11 6).2.2.1 ∈ GW := (gw_5 (List.mem_of_getElem? (l := tables_1_5) (i := 166) (by decide +kernel)) rfl)
theorem fl_RX11_25 : FLk RX11 25 10 6 := ⟨by decide, by decide, RX11, TX11, rfl, uw10, fw_RX11_25⟩
theorem fw_RX11_28 : Cond.fieldLink RX11 28 (TX11 7).1 (TX11 7).2.1 (TX11 7).2.2.1 ∈ GW := (gw_5 (List.mem_of_getElem? (l := tables_1_5) (i := 167) (by decide +kernel)) rfl)
theorem fl_RX11_28 : FLk RX11 28 10 7 := ⟨by decide, by decide, RX11, TX11, rfl, uw10, fw_RX11_28⟩
theorem fw_RX11_31 : Cond.fieldLink RX11 31 (TX11 8).1 (TX11 8).2.1 (TX11 8).2.2.1 ∈ GW := (gw_5 (List.mem_of_getElem? (l := tables_1_5) (i := 168) (by decide +kernel)) rfl)
theorem fl_RX11_31 : FLk RX11 31 10 8 := ⟨by decide, by decide, RX11, TX11, rfl, uw10, fw_RX11_31⟩
theorem fw_RX11_34 : Cond.fieldLink RX11 34 (TX11 9).1 (TX11 9).2.1 (TX11 9).2.2.1 ∈ GW := (gw_5 (List.mem_of_getElem? (l := tables_1_5) (i := 169) (by decide +kernel)) rfl)
theorem fl_RX11_34 : FLk RX11 34 10 9 := ⟨by decide, by decide, RX11, TX11, rfl, uw10, fw_RX11_34⟩
theorem fw_RX11_37 : Cond.fieldLink RX11 37 (TX11 10).1 (TX11 10).2.1 (TX11 10).2.2.1 ∈ GW := (gw_5 (List.mem_of_getElem? (l := tables_1_5) (i := 170) (by decide +kernel)) rfl)
theorem fl_RX11_37 : FLk RX11 37 10 10 := ⟨by decide, by decide, RX11, TX11, rfl, uw10, fw_RX11_37⟩
theorem fw_RX11_40 : Cond.fieldLink RX11 40 (TX11 11).1 (TX11 11).2.1 (TX11 11).2.2.1 ∈ GW := (gw_5 (List.mem_of_getElem? (l := tables_1_5) (i := 171) (by decide +kernel)) rfl)
theorem fl_RX11_40 : FLk RX11 40 10 11 := ⟨by decide, by decide, RX11, TX11, rfl, uw10, fw_RX11_40⟩
theorem fw_RX11_43 : Cond.fieldLink RX11 43 (TX11 12).1 (TX11 12).2.1 (TX11 12).2.2.1 ∈ GW := (gw_5 (List.mem_of_getElem? (l := tables_1_5) (i := 172) (by decide +kernel)) rfl)
theorem fl_RX11_43 : FLk RX11 43 10 12 := ⟨by decide, by decide, RX11, TX11, rfl, uw10, fw_RX11_43⟩
theorem fw_RX11_47 : Cond.fieldLink RX11 47 (TX11 13).1 (TX11 13).2.1 (TX11 13).2.2.1 ∈ GW := (gw_5 (List.mem_of_getElem? (l := tables_1_5) (i := 173) (by decide +kernel)) rfl)
theorem fl_RX11_47 : FLk RX11 47 10 13 := ⟨by decide, by decide, RX11, TX11, rfl, uw10, fw_RX11_47⟩
theorem fw_RX11_50 : Cond.fieldLink RX11 50 (TX11 14).1 (TX11 14).2.1 (TX11 14).2.2.1 ∈ GW := (gw_5 (List.mem_of_getElem? (l := tables_1_5) (i := 174) (by decide +kernel)) rfl)
theorem fl_RX11_50 : FLk RX11 50 10 14 := ⟨by decide, by decide, RX11, TX11, rfl, uw10, fw_RX11_50⟩
theorem fw_RX11_53 : Cond.fieldLink RX11 53 (TX11 15).1 (TX11 15).2.1 (TX11 15).2.2.1 ∈ GW := (gw_5 (List.mem_of_getElem? (l := tables_1_5) (i := 175) (by decide +kernel)) rfl)
theorem fl_RX11_53 : FLk RX11 53 10 15 := ⟨by decide, by decide, RX11, TX11, rfl, uw10, fw_RX11_53⟩
theorem fw_RX11_56 : Cond.fieldLink RX11 56 (TX11 16).1 (TX11 16).2.1 (TX11 16).2.2.1 ∈ GW := (gw_5 (List.mem_of_getElem? (l := tables_1_5) (i := 176) (by decide +kernel)) rfl)
theorem fl_RX11_56 : FLk RX11 56 10 16 := ⟨by decide, by decide, RX11, TX11, rfl, uw10, fw_RX11_56⟩
theorem fw_RX11_197 : Cond.fieldLink RX11 197 (TX11 17).1 (TX11 17).2.1 (TX11 17).2.2.1 ∈ GW := (gw_5 (List.mem_of_getElem? (l := tables_1_5) (i := 177) (by decide +kernel)) rfl)
theorem fl_RX11_197 : FLk RX11 197 10 17 := ⟨by decide, by decide, RX11, TX11, rfl, uw10, fw_RX11_197⟩
theorem fp_RX11_197 : FLu RX11 197 10 17 .int := ⟨by decide, by decide, RX11, TX11, tyX11, rfl, uw10, fw_RX11_197, rfl, tyX11_ok 17 (by decide), tyX11_ok, nmX11⟩
theorem fw_RX11_59 : Cond.fieldLink RX11 59 (TX11 18).1 (TX11 18).2.1 (TX11 18).2.2.1 ∈ GW := (gw_5 (List.mem_of_getElem? (l := tables_1_5) (i := 178) (by decide +kernel)) rfl)
theorem fl_RX11_59 : FLk RX11 59 10 18 := ⟨by decide, by decide, RX11, TX11, rfl, uw10, fw_RX11_59⟩
theorem fw_RX11_219 : Cond.fieldLink RX11 219 (TX11 19).1 (TX11 19).2.1 (TX11 19).2.2.1 ∈ GW := (gw_5 (List.mem_of_getElem? (l := tables_1_5) (i := 179) (by decide +kernel)) rfl)
theorem fl_RX11_219 : FLk RX11 219 10 19 := ⟨by decide, by decide, RX11, TX11, rfl, uw10, fw_RX11_219⟩
theorem fp_RX11_219 : FLu RX11 219 10 19 .int := ⟨by decide, by decide, RX11, TX11, tyX11, rfl, uw10, fw_RX11_219, rfl, tyX11_ok 19 (by decide), tyX11_ok, nmX11⟩
theorem fw_RX11_236 : Cond.fieldLink RX11 236 (TX11 20).1 (TX11 20).2.1 (TX11 20).2.2.1 ∈ GW := (gw_5 (List.mem_of_getElem? (l := tables_1_5) (i := 180) (by decide +kernel)) rfl)
theorem fl_RX11_236 : FLk RX11 236 10 20 := ⟨by decide, by decide, RX11, TX11, rfl, uw10, fw_RX11_236⟩
theorem fp_RX11_236 : FLu RX11 236 10 20 .int := ⟨by decide, by decide, RX11, TX11, tyX11, rfl, uw10, fw_RX11_236, rfl, tyX11_ok 20 (by decide), tyX11_ok, nmX11⟩
theorem fw_RX11_230 : Cond.fieldLink RX11 230 (TX11 21).1 (TX11 21).2.1 (TX11 21).2.2.1 ∈ GW := (gw_5 (List.mem_of_getElem? (l := tables_1_5) (i := 181) (by decide +kernel)) rfl)
theorem fl_RX11_230 : FLk RX11 230 10 21 := ⟨by decide, by decide, RX11, TX11, rfl, uw10, fw_RX11_230⟩
theorem fp_RX11_230 : FLu RX11 230 10 21 .int := ⟨by decide, by decide, RX11, TX11, tyX11, rfl, uw10, fw_RX11_230, rfl, tyX11_ok 21 (by decide), tyX11_ok, nmX11⟩
theorem fw_RX11_233 : Cond.fieldLink RX11 233 (TX11 22).1 (TX11 22).2.1 (TX11 22).2.2.1 ∈ GW := (gw_5 (List.mem_of_getElem? (l := tables_1_5) (i := 182) (by decide +kernel)) rfl)
theorem fl_RX11_233 : FLk RX11 233 10 22 := ⟨by decide, by decide, RX11, TX11, rfl, uw10, fw_RX11_233⟩
theorem fp_RX11_233 : FLu RX11 233 10 22 .int := ⟨by decide, by decide, RX11, TX11, tyX11, rfl, uw10, fw_RX11_233, rfl, tyX11_ok 22 (by decide), tyX11_ok, nmX11⟩
theorem fw_RX11_248 : Cond.fieldLink RX11 248 (TX11 23).1 (TX11 23).2.1 (TX11 23).2.2.1 ∈ GW := (gw_5 (List.mem_of_getElem? (l := tables_1_5) (i := 183) (by decide +kernel)) rfl)
theorem fl_RX11_248 : FLk RX11 248 10 23 := ⟨by decide, by decide, RX11, TX11, rfl, uw10, fw_RX11_248⟩
theorem fp_RX11_248 : FLu RX11 248 10 23 .int := ⟨by decide, by decide, RX11, TX11, tyX11, rfl, uw10, fw_RX11_248, rfl, tyX11_ok 23 (by decide), tyX11_ok, nmX11⟩
theorem fw_RX11_242 : Cond.fieldLink RX11 242 (TX11 24).1 (TX11 24).2.1 (TX11 24).2.2.1 ∈ GW := (gw_5 (List.mem_of_getElem? (l := tables_1_5) (i := 184) (by decide +kernel)) rfl)
theorem fl_RX11_242 : FLk RX11 242 10 24 := ⟨by decide, by decide, RX11, TX11, rfl, uw10, fw_RX11_242⟩
theorem fp_RX11_242 : FLu RX11 242 10 24 .int := ⟨by decide, by decide, RX11, TX11, tyX11, rfl, uw10, fw_RX11_242, rfl, tyX11_ok 24 (by decide), tyX11_ok, nmX11⟩
theorem fw_RX11_294 : Cond.fieldLink RX11 294 (TX11 25).1 (TX11 25).2.1 (TX11 25).2.2.1 ∈ GW := (gw_5 (List.mem_of_getElem? (l := tables_1_5) (i := 185) (by decide +kernel)) rfl)
theorem fl_RX11_294 : FLk RX11 294 10 25 := ⟨by decide, by decide, RX11, TX11, rfl, uw10, fw_RX11_294⟩
theorem fp_RX11_294 : FLu RX11 294 10 25 .int := ⟨by decide, by decide, RX11, TX11, tyX11, rfl, uw10, fw_RX11_294, rfl, tyX11_ok 25 (by decide), tyX11_ok, nmX11⟩
theorem fw_RX11_291 : Cond.fieldLink RX11 291 (TX11 26).1 (TX11 26).2.1 (TX11 26).2.2.1 ∈ GW := (gw_5 (List.mem_of_getElem? (l := tables_1_5) (i := 186) (by decide +kernel)) rfl)
theorem fl_RX11_291 : FLk RX11 291 10 26 := ⟨by decide, by decide, RX11, TX11, rfl, uw10, fw_RX11_291⟩
theorem fp_RX11_291 : FLu RX11 291 10 26 .int := ⟨by decide, by decide, RX11, TX11, tyX11, rfl, uw10, fw_RX11_291, rfl, tyX11_ok 26 (by decide), tyX11_ok, nmX11⟩
theorem fw_RX11_261 : Cond.fieldLink RX11 261 (TX11 27).1 (TX11 27).2.1 (TX11 27).2.2.1 ∈ GW := (gw_5 (List.mem_of_getElem? (l := tables_1_5) (i := 187) (by decide +kernel)) rfl)
theorem fl_RX11_261 : FLk RX11 261 10 27 := ⟨by decide, by decide, RX11, TX11, rfl, uw10, fw_RX11_261⟩
theorem fp_RX11_261 : FLu RX11 261 10 27 .int := ⟨by decide, by decide, RX11, TX11, tyX11, rfl, uw10, fw_RX11_261, rfl, tyX11_ok 27 (by decide), tyX11_ok, nmX11⟩
theorem fw_RX11_258 : Cond.fieldLink RX11 258 (TX11 28).1 (TX11 28).2.1 (TX11 28).2.2.1 ∈ GW := (gw_5 (List.mem_of_getElem? (l := tables_1_5) (i := 188) (by decide +kernel)) rfl)
theorem fl_RX11_258 : FLk RX11 258 10 28 := ⟨by decide, by decide, RX11, TX11, rfl, uw10, fw_RX11_258⟩
theorem fp_RX11_258 : FLu RX11 258 10 28 .int := ⟨by decide, by decide, RX11, TX11, tyX11, rfl, uw10, fw_RX11_258, rfl, tyX11_ok 28 (by decide), tyX11_ok, nmX11⟩
theorem fw_RX11_285 : Cond.fieldLink RX11 285 (TX11 29).1 (TX11 29).2.1 (TX11 29).2.2.1 ∈ GW := (gw_5 (List.mem_of_getElem? (l := tables_1_5) (i := 189) (by decide +kernel)) rfl)
theorem fl_RX11_285 : FLk RX11 285 10 29 := ⟨by decide, by decide, RX11, TX11, rfl, uw10, fw_RX11_285⟩
theorem fp_RX11_285 : FLu RX11 285 10 29 .int := ⟨by decide, by decide, RX11, TX11, tyX11, rfl, uw10, fw_RX11_285, rfl, tyX11_ok 29 (by decide), tyX11_ok, nmX11⟩
theorem fw_RX11_62 : Cond.fieldLink RX11 62 (TX11 30).1 (TX11 30).2.1 (TX11 30).2.2.1 ∈ GW := (gw_5 (List.mem_of_getElem? (l := tables_1_5) (i := 190) (by decide +kernel)) rfl)
theorem fl_RX11_62 : FLk RX11 62 10 30 := ⟨by decide, by decide, RX11, TX11, rfl, uw10, fw_RX11_62⟩
theorem fw_RX11_65 : Cond.fieldLink RX11 65 (TX11 31).1 (TX11 31).2.1 (TX11 31).2.2.1 ∈ GW := (gw_5 (List.mem_of_getElem? (l := tables_1_5) (i := 191) (by decide +kernel)) rfl)
theorem fl_RX11_65 : FLk RX11 65 10 31 := ⟨by decide, by decide, RX11, TX11, rfl, uw10, fw_RX11_65⟩
theorem fw_RX11_68 : Cond.fieldLink RX11 68 (TX11 32).1 (TX11 32).2.1 (TX11 32).2.2.1 ∈ GW := (gw_5 (List.mem_of_getElem? (l := tables_1_5) (i := 192) (by decide +kernel)) rfl)
theorem fl_RX11_68 : FLk RX11 68 10 32 := ⟨by decide, by decide, RX11, TX11, rfl, uw10, fw_RX11_68⟩
theorem fw_RX11_71 : Cond.fieldLink RX11 71 (TX11 33).1 (TX11 33).2.1 (TX11 33).2.2.1 ∈ GW := (gw_5 (List.mem_of_getElem? (l := tables_1_5) (i := 193) (by decide +kernel)) rfl)
theorem fl_RX11_71 : FLk RX11 71 10 33 := ⟨by decide, by decide, RX11, TX11, rfl, uw10, fw_RX11_71⟩
theorem fw_RX11_335 : Cond.fieldLink RX11 335 (TX11 34).1 (TX11 34).2.1 (TX11 34).2.2.1 ∈ GW := (gw_5 (List.mem_of_getElem? (l := tables_1_5) (i := 194) (by decide +kernel)) rfl)
theorem fl_RX11_335 : FLk RX11 335 10 34 := ⟨by decide, by decide, RX11, TX11, rfl, uw10, fw_RX11_335⟩
theorem fp_RX11_335 : FLu RX11 335 10 34 .int := ⟨by decide, by decide, RX11, TX11, tyX11, rfl, uw10, fw_RX11_335, rfl, tyX11_ok 34 (by decide), tyX11_ok, nmX11⟩
theorem fw_RX11_74 : Cond.fieldLink RX11 74 (TX11 35).1 (TX11 35).2.1 (TX11 35).2.2.1 ∈ GW := (gw_5 (List.mem_of_getElem? (l := tables_1_5) (i := 195) (by decide +kernel)) rfl)
theorem fl_RX11_74 : FLk RX11 74 10 35 := ⟨by decide, by decide, RX11, TX11, rfl, uw10, fw_RX11_74⟩
theorem kc_RX10_67 : Cond.constant RX10 67 (-1000000001) ∈ GW := (gw_2 (List.mem_of_getElem? (l := tables_1_2) (i := 171) (by decide +kernel)) rfl)
theorem kc_RX0_43 : Cond.constant RX0 43 (-1000000003) ∈ GW := (gw_2 (List.mem_of_getElem? (l := tables_1_2) (i := 176) (by decide +kernel)) rfl)
theorem kc_RX10_110 : Cond.constant RX10 110 (-1000000012) ∈ GW := (gw_2 (List.mem_of_getElem? (l := tables_1_2) (i := 216) (by decide +kernel)) rfl)
theorem kc_RX10_111 : Cond.constant RX10 111 (-1000000003) ∈ GW := (gw_2 (List.mem_of_getElem? (l := tables_1_2) (i := 221) (by decide +kernel)) rfl)
theorem kc_RX10_112 : Cond.constant RX10 112 99999 ∈ GW := (gw_2 (List.mem_of_getElem? (l := tables_1_2) (i := 226) (by decide +kernel)) rfl)
theorem kc_RX10_116 : Cond.constant RX10 116 (-1000000002) ∈ GW := (gw_2 (List.mem_of_getElem? (l := tables_1_2) (i := 239) (by decide +kernel)) rfl)
theorem kc_RX1_84 : Cond.constantLong RX1 84 (-1) ∈ GW := (gw_3 (List.mem_of_getElem? (l := tables_1_3) (i := 26) (by decide +kernel)) rfl)
theorem kc_RX1_149 : Cond.constant RX1 149 100000 ∈ GW := (gw_3 (List.mem_of_getElem? (l := tables_1_3) (i := 103) (by decide +kernel)) rfl)
theorem kc_RX10_350 : Cond.constantLong RX10 350 100 ∈ GW := (gw_3 (List.mem_of_getElem? (l := tables_1_3) (i := 159) (by decide +kernel)) rfl)
theorem kc_RX10_199 : Cond.constant RX10 199 (-1000000005) ∈ GW := (gw_3 (List.mem_of_getElem? (l := tables_1_3) (i := 192) (by decide +kernel)) rfl)
theorem kc_RX8_87 : Cond.constant RX8 87 (-1000000005) ∈ GW := (gw_4 (List.mem_of_getElem? (l := tables_1_4) (i := 48) (by decide +kernel)) rfl)
theorem kc_RX9_45 : Cond.constant RX9 45 (-1000000003) ∈ GW := (gw_4 (List.mem_of_getElem? (l := tables_1_4) (i := 158) (by decide +kernel)) rfl)
theorem kc_RX10_240 : Cond.constant RX10 240 999999 ∈ GW := (gw_4 (List.mem_of_getElem? (l := tables_1_4) (i := 194) (by decide +kernel)) rfl)
theorem kc_RX3_31 : Cond.constant RX3 31 (-1000000003) ∈ GW := (gw_4 (List.mem_of_getElem? (l := tables_1_4) (i := 228) (by decide +kernel)) rfl)
theorem kc_RX10_277 : Cond.constant RX10 277 (-1000000014) ∈ GW := (gw_5 (List.mem_of_getElem? (l := tables_1_5) (i := 31) (by decide +kernel)) rfl)
theorem kc_RX10_281 : Cond.constant RX10 281 (-1000000011) ∈ GW := (gw_5 (List.mem_of_getElem? (l := tables_1_5) (i := 36) (by decide +kernel)) rfl)
theorem kc_RX10_283 : Cond.constant RX10 283 (-1000000013) ∈ GW := (gw_5 (List.mem_of_getElem? (l := tables_1_5) (i := 41) (by decide +kernel)) rfl)
theorem kc_RX10_287 : Cond.constant RX10 287 (-99999) ∈ GW := (gw_5 (List.mem_of_getElem? (l := tables_1_5) (i := 46) (by decide +kernel)) rfl)
theorem kc_RX11_96 : Cond.constantLong RX11 96 5 ∈ GW := (gw_6 (List.mem_of_getElem? (l := tables_1_6) (i := 33) (by decide +kernel)) rfl)
theorem kc_RX11_98 : Cond.constantLong RX11 98 9999 ∈ GW := (gw_6 (List.mem_of_getElem? (l := tables_1_6) (i := 37) (by decide +kernel)) rfl)
theorem kc_RX11_100 : Cond.constant RX11 100 (-1000000001) ∈ GW := (gw_6 (List.mem_of_getElem? (l := tables_1_6) (i := 38) (by decide +kernel)) rfl)
theorem kc_RX11_101 : Cond.constant RX11 101 (-1000000003) ∈ GW := (gw_6 (List.mem_of_getElem? (l := tables_1_6) (i := 39) (by decide +kernel)) rfl)
theorem kc_RX11_109 : Cond.constantLong RX11 109 999 ∈ GW := (gw_6 (List.mem_of_getElem? (l := tables_1_6) (i := 59) (by decide +kernel)) rfl)
theorem kc_RX11_111 : Cond.constantLong RX11 111 3 ∈ GW := (gw_6 (List.mem_of_getElem? (l := tables_1_6) (i := 60) (by decide +kernel)) rfl)
theorem kc_RX11_124 : Cond.constant RX11 124 (-1000000012) ∈ GW := (gw_6 (List.mem_of_getElem? (l := tables_1_6) (i := 84) (by decide +kernel)) rfl)
theorem kc_RX11_125 : Cond.constantLong RX11 125 99999 ∈ GW := (gw_6 (List.mem_of_getElem? (l := tables_1_6) (i := 93) (by decide +kernel)) rfl)
theorem kc_RX11_130 : Cond.constantLong RX11 130 2 ∈ GW := (gw_6 (List.mem_of_getElem? (l := tables_1_6) (i := 102) (by decide +kernel)) rfl)
theorem kc_RX11_153 : Cond.constant RX11 153 (-1000000002) ∈ GW := (gw_6 (List.mem_of_getElem? (l := tables_1_6) (i := 111) (by decide +kernel)) rfl)
theorem kc_RX11_132 : Cond.constantLong RX11 132 (-1) ∈ GW := (gw_6 (List.mem_of_getElem? (l := tables_1_6) (i := 124) (by decide +kernel)) rfl)
theorem kc_RX11_158 : Cond.constantLong RX11 158 8 ∈ GW := (gw_6 (List.mem_of_getElem? (l := tables_1_6) (i := 140) (by decide +kernel)) rfl)
theorem kc_RX11_185 : Cond.constantLong RX11 185 4 ∈ GW := (gw_6 (List.mem_of_getElem? (l := tables_1_6) (i := 149) (by decide +kernel)) rfl)
theorem kc_RX11_181 : Cond.constant RX11 181 100000 ∈ GW := (gw_6 (List.mem_of_getElem? (l := tables_1_6) (i := 188) (by decide +kernel)) rfl)
theorem kc_RX11_201 : Cond.constantLong RX11 201 60 ∈ GW := (gw_6 (List.mem_of_getElem? (l := tables_1_6) (i := 193) (by decide +kernel)) rfl)
theorem kc_RX11_163 : Cond.constantLong RX11 163 100 ∈ GW := (gw_6 (List.mem_of_getElem? (l := tables_1_6) (i := 213) (by decide +kernel)) rfl)
theorem kc_RX11_77 : Cond.constant RX11 77 (-1000000005) ∈ GW := (gw_6 (List.mem_of_getElem? (l := tables_1_6) (i := 237) (by decide +kernel)) rfl)
theorem kc_RX11_222 : Cond.constantLong RX11 222 97 ∈ GW := (gw_7 (List.mem_of_getElem? (l := tables_1_7) (i := 22) (by decide +kernel)) rfl)
theorem kc_RX11_224 : Cond.constantLong RX11 224 122 ∈ GW := (gw_7 (List.mem_of_getElem? (l := tables_1_7) (i := 23) (by decide +kernel)) rfl)
theorem kc_RX11_226 : Cond.constantLong RX11 226 48 ∈ GW := (gw_7 (List.mem_of_getElem? (l := tables_1_7) (i := 28) (by decide +kernel)) rfl)
theorem kc_RX11_228 : Cond.constantLong RX11 228 57 ∈ GW := (gw_7 (List.mem_of_getElem? (l := tables_1_7) (i := 29) (by decide +kernel)) rfl)
theorem kc_RX11_315 : Cond.constantLong RX11 315 999999 ∈ GW := (gw_7 (List.mem_of_getElem? (l := tables_1_7) (i := 97) (by decide +kernel)) rfl)
theorem kc_RX11_323 : Cond.constant RX11 323 99999 ∈ GW := (gw_7 (List.mem_of_getElem? (l := tables_1_7) (i := 114) (by decide +kernel)) rfl)
theorem kc_RX11_327 : Cond.constant RX11 327 (-1000000014) ∈ GW := (gw_7 (List.mem_of_getElem? (l := tables_1_7) (i := 126) (by decide +kernel)) rfl)
theorem kc_RX11_328 : Cond.constant RX11 328 (-1000000011) ∈ GW := (gw_7 (List.mem_of_getElem? (l := tables_1_7) (i := 131) (by decide +kernel)) rfl)
theorem kc_RX11_329 : Cond.constant RX11 329 (-1000000013) ∈ GW := (gw_7 (List.mem_of_getElem? (l := tables_1_7) (i := 132) (by decide +kernel)) rfl)
theorem kc_RX11_330 : Cond.constantLong RX11 330 (-99999) ∈ GW := (gw_7 (List.mem_of_getElem? (l := tables_1_7) (i := 133) (by decide +kernel)) rfl)
theorem kc_RX11_338 : Cond.constantLong RX11 338 30 ∈ GW := (gw_7 (List.mem_of_getElem? (l := tables_1_7) (i := 173) (by decide +kernel)) rfl)
