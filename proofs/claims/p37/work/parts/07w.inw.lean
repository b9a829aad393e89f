theorem inW0 : ∀ w ∈ u_ws RX0 TX0 13, w ∈ WG := by
  intro w h
  obtain ⟨k, hk, rfl⟩ := List.mem_map.mp h
  have hk := List.mem_range.mp hk
  match k, hk with
  | 0, _ => exact g_102
  | 1, _ => exact g_104
  | 2, _ => exact g_106
  | 3, _ => exact g_108
  | 4, _ => exact g_110
  | 5, _ => exact g_112
  | 6, _ => exact g_114
  | 7, _ => exact g_116
  | 8, _ => exact g_118
  | 9, _ => exact g_120
  | 10, _ => exact g_122
  | 11, _ => exact g_124
  | 12, _ => exact g_126
  | k + 13, hk => omega
theorem inW1 : ∀ w ∈ u_ws RX1 TX1 3, w ∈ WG := by
  intro w h
  obtain ⟨k, hk, rfl⟩ := List.mem_map.mp h
  have hk := List.mem_range.mp hk
  match k, hk with
  | 0, _ => exact g_220
  | 1, _ => exact g_222
  | 2, _ => exact g_224
  | k + 3, hk => omega
theorem inW2 : ∀ w ∈ u_ws RX2 TX2 3, w ∈ WG := by
  intro w h
  obtain ⟨k, hk, rfl⟩ := List.mem_map.mp h
  have hk := List.mem_range.mp hk
  match k, hk with
  | 0, _ => exact g_141
  | 1, _ => exact g_143
  | 2, _ => exact g_145
  | k + 3, hk => omega
theorem inW3 : ∀ w ∈ u_ws RX3 TX3 9, w ∈ WG := by
  intro w h
  obtain ⟨k, hk, rfl⟩ := List.mem_map.mp h
  have hk := List.mem_range.mp hk
  match k, hk with
  | 0, _ => exact g_251
  | 1, _ => exact g_253
  | 2, _ => exact g_255
  | 3, _ => exact g_257
  | 4, _ => exact g_259
  | 5, _ => exact g_261
  | 6, _ => exact g_263
  | 7, _ => exact g_265
  | 8, _ => exact g_267
  | k + 9, hk => omega
theorem inW4 : ∀ w ∈ u_ws RX4 TX4 16, w ∈ WG := by
  intro w h
  obtain ⟨k, hk, rfl⟩ := List.mem_map.mp h
  have hk := List.mem_range.mp hk
  match k, hk with
  | 0, _ => exact g_174
  | 1, _ => exact g_176
  | 2, _ => exact g_178
  | 3, _ => exact g_180
  | 4, _ => exact g_182
  | 5, _ => exact g_184
  | 6, _ => exact g_186
  | 7, _ => exact g_188
  | 8, _ => exact g_190
  | 9, _ => exact g_192
  | 10, _ => exact g_194
  | 11, _ => exact g_196
  | 12, _ => exact g_198
  | 13, _ => exact g_200
  | 14, _ => exact g_202
  | 15, _ => exact g_204
  | k + 16, hk => omega
theorem inW5 : ∀ w ∈ u_ws RX5 TX5 6, w ∈ WG := by
  intro w h
  obtain ⟨k, hk, rfl⟩ := List.mem_map.mp h
  have hk := List.mem_range.mp hk
  match k, hk with
  | 0, _ => exact g_277
  | 1, _ => exact g_279
  | 2, _ => exact g_281
  | 3, _ => exact g_283
  | 4, _ => exact g_285
  | 5, _ => exact g_287
  | k + 6, hk => omega
theorem inW6 : ∀ w ∈ u_ws RJ0 TJ0 4, w ∈ WG := by
  intro w h
  obtain ⟨k, hk, rfl⟩ := List.mem_map.mp h
  have hk := List.mem_range.mp hk
  match k, hk with
  | 0, _ => exact g_487
  | 1, _ => exact g_489
  | 2, _ => exact g_1269
  | 3, _ => exact g_1271
  | k + 4, hk => omega
theorem inW7 : ∀ w ∈ u_ws RJ4 TJ4 4, w ∈ WG := by
  intro w h
  obtain ⟨k, hk, rfl⟩ := List.mem_map.mp h
  have hk := List.mem_range.mp hk
  match k, hk with
  | 0, _ => exact g_1058
  | 1, _ => exact g_1060
  | 2, _ => exact g_1062
  | 3, _ => exact g_1064
  | k + 4, hk => omega
