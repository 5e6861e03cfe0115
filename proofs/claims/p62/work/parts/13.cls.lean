theorem inB_RJ0 : ∀ w ∈ u_ws RJ0 TJ0 4, w ∈ g_B := by
  intro w hw
  obtain ⟨k, hk, rfl⟩ := List.mem_map.mp hw
  have hk := List.mem_range.mp hk
  match k, hk with
  | 0, _ => exact m_1171
  | 1, _ => exact m_1173
  | 2, _ => exact m_1175
  | 3, _ => exact m_1177
  | k + 4, h => exact absurd h (by omega)
theorem inB_RJ4 : ∀ w ∈ u_ws RJ4 TJ4 4, w ∈ g_B := by
  intro w hw
  obtain ⟨k, hk, rfl⟩ := List.mem_map.mp hw
  have hk := List.mem_range.mp hk
  match k, hk with
  | 0, _ => exact m_219
  | 1, _ => exact m_221
  | 2, _ => exact m_223
  | 3, _ => exact m_225
  | k + 4, h => exact absurd h (by omega)
theorem inB_RX1 : ∀ w ∈ u_ws RX1 TX1 6, w ∈ g_B := by
  intro w hw
  obtain ⟨k, hk, rfl⟩ := List.mem_map.mp hw
  have hk := List.mem_range.mp hk
  match k, hk with
  | 0, _ => exact m_87
  | 1, _ => exact m_89
  | 2, _ => exact m_91
  | 3, _ => exact m_93
  | 4, _ => exact m_95
  | 5, _ => exact m_97
  | k + 6, h => exact absurd h (by omega)
theorem inB_RX2 : ∀ w ∈ u_ws RX2 TX2 4, w ∈ g_B := by
  intro w hw
  obtain ⟨k, hk, rfl⟩ := List.mem_map.mp hw
  have hk := List.mem_range.mp hk
  match k, hk with
  | 0, _ => exact m_62
  | 1, _ => exact m_64
  | 2, _ => exact m_66
  | 3, _ => exact m_68
  | k + 4, h => exact absurd h (by omega)
theorem inB_RX3 : ∀ w ∈ u_ws RX3 TX3 7, w ∈ g_B := by
  intro w hw
  obtain ⟨k, hk, rfl⟩ := List.mem_map.mp hw
  have hk := List.mem_range.mp hk
  match k, hk with
  | 0, _ => exact m_180
  | 1, _ => exact m_182
  | 2, _ => exact m_184
  | 3, _ => exact m_186
  | 4, _ => exact m_188
  | 5, _ => exact m_190
  | 6, _ => exact m_192
  | k + 7, h => exact absurd h (by omega)
theorem inB_RX4 : ∀ w ∈ u_ws RX4 TX4 5, w ∈ g_B := by
  intro w hw
  obtain ⟨k, hk, rfl⟩ := List.mem_map.mp hw
  have hk := List.mem_range.mp hk
  match k, hk with
  | 0, _ => exact m_142
  | 1, _ => exact m_144
  | 2, _ => exact m_146
  | 3, _ => exact m_148
  | 4, _ => exact m_150
  | k + 5, h => exact absurd h (by omega)
theorem inB_RX5 : ∀ w ∈ u_ws RX5 TX5 6, w ∈ g_B := by
  intro w hw
  obtain ⟨k, hk, rfl⟩ := List.mem_map.mp hw
  have hk := List.mem_range.mp hk
  match k, hk with
  | 0, _ => exact m_116
  | 1, _ => exact m_118
  | 2, _ => exact m_120
  | 3, _ => exact m_122
  | 4, _ => exact m_124
  | 5, _ => exact m_126
  | k + 6, h => exact absurd h (by omega)
theorem inB_RX7 : ∀ w ∈ u_ws RX7 TX7 13, w ∈ g_B := by
  intro w hw
  obtain ⟨k, hk, rfl⟩ := List.mem_map.mp hw
  have hk := List.mem_range.mp hk
  match k, hk with
  | 0, _ => exact m_266
  | 1, _ => exact m_268
  | 2, _ => exact m_270
  | 3, _ => exact m_272
  | 4, _ => exact m_274
  | 5, _ => exact m_276
  | 6, _ => exact m_278
  | 7, _ => exact m_280
  | 8, _ => exact m_282
  | 9, _ => exact m_284
  | 10, _ => exact m_286
  | 11, _ => exact m_288
  | 12, _ => exact m_290
  | k + 13, h => exact absurd h (by omega)
