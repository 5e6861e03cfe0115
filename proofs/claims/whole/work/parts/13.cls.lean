theorem inB_RJ4 : ∀ w ∈ u_ws RJ4 TJ4 4, w ∈ g_B := by
  intro w hw
  obtain ⟨k, hk, rfl⟩ := List.mem_map.mp hw
  have hk := List.mem_range.mp hk
  match k, hk with
  | 0, _ => exact m_231
  | 1, _ => exact m_233
  | 2, _ => exact m_235
  | 3, _ => exact m_237
  | k + 4, h => exact absurd h (by omega)
theorem inB_RJx00060 : ∀ w ∈ u_ws RJx00060 TJx00060 6, w ∈ g_B := by
  intro w hw
  obtain ⟨k, hk, rfl⟩ := List.mem_map.mp hw
  have hk := List.mem_range.mp hk
  match k, hk with
  | 0, _ => exact m_1414
  | 1, _ => exact m_1415
  | 2, _ => exact m_1416
  | 3, _ => exact m_1417
  | 4, _ => exact m_1418
  | 5, _ => exact m_1429
  | k + 6, h => exact absurd h (by omega)
theorem inB_RJx7c733 : ∀ w ∈ u_ws RJx7c733 TJx7c733 6, w ∈ g_B := by
  intro w hw
  obtain ⟨k, hk, rfl⟩ := List.mem_map.mp hw
  have hk := List.mem_range.mp hk
  match k, hk with
  | 0, _ => exact m_1389
  | 1, _ => exact m_1390
  | 2, _ => exact m_1391
  | 3, _ => exact m_1392
  | 4, _ => exact m_1393
  | 5, _ => exact m_1394
  | k + 6, h => exact absurd h (by omega)
theorem inB_RX1 : ∀ w ∈ u_ws RX1 TX1 6, w ∈ g_B := by
  intro w hw
  obtain ⟨k, hk, rfl⟩ := List.mem_map.mp hw
  have hk := List.mem_range.mp hk
  match k, hk with
  | 0, _ => exact m_90
  | 1, _ => exact m_92
  | 2, _ => exact m_94
  | 3, _ => exact m_96
  | 4, _ => exact m_98
  | 5, _ => exact m_100
  | k + 6, h => exact absurd h (by omega)
theorem inB_RX2 : ∀ w ∈ u_ws RX2 TX2 4, w ∈ g_B := by
  intro w hw
  obtain ⟨k, hk, rfl⟩ := List.mem_map.mp hw
  have hk := List.mem_range.mp hk
  match k, hk with
  | 0, _ => exact m_65
  | 1, _ => exact m_67
  | 2, _ => exact m_69
  | 3, _ => exact m_71
  | k + 4, h => exact absurd h (by omega)
theorem inB_RX3 : ∀ w ∈ u_ws RX3 TX3 7, w ∈ g_B := by
  intro w hw
  obtain ⟨k, hk, rfl⟩ := List.mem_map.mp hw
  have hk := List.mem_range.mp hk
  match k, hk with
  | 0, _ => exact m_191
  | 1, _ => exact m_193
  | 2, _ => exact m_195
  | 3, _ => exact m_197
  | 4, _ => exact m_199
  | 5, _ => exact m_201
  | 6, _ => exact m_203
  | k + 7, h => exact absurd h (by omega)
theorem inB_RX4 : ∀ w ∈ u_ws RX4 TX4 5, w ∈ g_B := by
  intro w hw
  obtain ⟨k, hk, rfl⟩ := List.mem_map.mp hw
  have hk := List.mem_range.mp hk
  match k, hk with
  | 0, _ => exact m_146
  | 1, _ => exact m_148
  | 2, _ => exact m_150
  | 3, _ => exact m_152
  | 4, _ => exact m_154
  | k + 5, h => exact absurd h (by omega)
theorem inB_RX5 : ∀ w ∈ u_ws RX5 TX5 6, w ∈ g_B := by
  intro w hw
  obtain ⟨k, hk, rfl⟩ := List.mem_map.mp hw
  have hk := List.mem_range.mp hk
  match k, hk with
  | 0, _ => exact m_119
  | 1, _ => exact m_121
  | 2, _ => exact m_123
  | 3, _ => exact m_125
  | 4, _ => exact m_127
  | 5, _ => exact m_129
  | k + 6, h => exact absurd h (by omega)
theorem inB_RX7 : ∀ w ∈ u_ws RX7 TX7 13, w ∈ g_B := by
  intro w hw
  obtain ⟨k, hk, rfl⟩ := List.mem_map.mp hw
  have hk := List.mem_range.mp hk
  match k, hk with
  | 0, _ => exact m_278
  | 1, _ => exact m_280
  | 2, _ => exact m_282
  | 3, _ => exact m_284
  | 4, _ => exact m_286
  | 5, _ => exact m_288
  | 6, _ => exact m_290
  | 7, _ => exact m_292
  | 8, _ => exact m_294
  | 9, _ => exact m_296
  | 10, _ => exact m_298
  | 11, _ => exact m_300
  | 12, _ => exact m_302
  | k + 13, h => exact absurd h (by omega)
theorem inB_RX8 : ∀ w ∈ u_ws RX8 TX8 26, w ∈ g_B := by
  intro w hw
  obtain ⟨k, hk, rfl⟩ := List.mem_map.mp hw
  have hk := List.mem_range.mp hk
  match k, hk with
  | 0, _ => exact m_1557
  | 1, _ => exact m_1559
  | 2, _ => exact m_1561
  | 3, _ => exact m_1563
  | 4, _ => exact m_1565
  | 5, _ => exact m_1567
  | 6, _ => exact m_1569
  | 7, _ => exact m_1571
  | 8, _ => exact m_1573
  | 9, _ => exact m_1575
  | 10, _ => exact m_1577
  | 11, _ => exact m_1579
  | 12, _ => exact m_1581
  | 13, _ => exact m_1583
  | 14, _ => exact m_1585
  | 15, _ => exact m_1587
  | 16, _ => exact m_1589
  | 17, _ => exact m_1591
  | 18, _ => exact m_1593
  | 19, _ => exact m_1595
  | 20, _ => exact m_1597
  | 21, _ => exact m_1599
  | 22, _ => exact m_1601
  | 23, _ => exact m_1603
  | 24, _ => exact m_1605
  | 25, _ => exact m_1607
  | k + 26, h => exact absurd h (by omega)
