theorem inW0 : ∀ w ∈ u_ws RX0 TX0 13, w ∈ WG := by
  intro w h
  obtain ⟨k, hk, rfl⟩ := List.mem_map.mp h
  have hk := List.mem_range.mp hk
  match k, hk with
  | 0, _ => exact g_134
  | 1, _ => exact g_136
  | 2, _ => exact g_138
  | 3, _ => exact g_140
  | 4, _ => exact g_142
  | 5, _ => exact g_144
  | 6, _ => exact g_146
  | 7, _ => exact g_148
  | 8, _ => exact g_150
  | 9, _ => exact g_152
  | 10, _ => exact g_154
  | 11, _ => exact g_156
  | 12, _ => exact g_158
  | k + 13, hk => omega
theorem inW1 : ∀ w ∈ u_ws RX1 TX1 3, w ∈ WG := by
  intro w h
  obtain ⟨k, hk, rfl⟩ := List.mem_map.mp h
  have hk := List.mem_range.mp hk
  match k, hk with
  | 0, _ => exact g_252
  | 1, _ => exact g_254
  | 2, _ => exact g_256
  | k + 3, hk => omega
theorem inW2 : ∀ w ∈ u_ws RX2 TX2 3, w ∈ WG := by
  intro w h
  obtain ⟨k, hk, rfl⟩ := List.mem_map.mp h
  have hk := List.mem_range.mp hk
  match k, hk with
  | 0, _ => exact g_173
  | 1, _ => exact g_175
  | 2, _ => exact g_177
  | k + 3, hk => omega
theorem inW3 : ∀ w ∈ u_ws RX3 TX3 9, w ∈ WG := by
  intro w h
  obtain ⟨k, hk, rfl⟩ := List.mem_map.mp h
  have hk := List.mem_range.mp hk
  match k, hk with
  | 0, _ => exact g_283
  | 1, _ => exact g_285
  | 2, _ => exact g_287
  | 3, _ => exact g_289
  | 4, _ => exact g_291
  | 5, _ => exact g_293
  | 6, _ => exact g_295
  | 7, _ => exact g_297
  | 8, _ => exact g_299
  | k + 9, hk => omega
theorem inW4 : ∀ w ∈ u_ws RX4 TX4 16, w ∈ WG := by
  intro w h
  obtain ⟨k, hk, rfl⟩ := List.mem_map.mp h
  have hk := List.mem_range.mp hk
  match k, hk with
  | 0, _ => exact g_206
  | 1, _ => exact g_208
  | 2, _ => exact g_210
  | 3, _ => exact g_212
  | 4, _ => exact g_214
  | 5, _ => exact g_216
  | 6, _ => exact g_218
  | 7, _ => exact g_220
  | 8, _ => exact g_222
  | 9, _ => exact g_224
  | 10, _ => exact g_226
  | 11, _ => exact g_228
  | 12, _ => exact g_230
  | 13, _ => exact g_232
  | 14, _ => exact g_234
  | 15, _ => exact g_236
  | k + 16, hk => omega
theorem inW5 : ∀ w ∈ u_ws RX5 TX5 6, w ∈ WG := by
  intro w h
  obtain ⟨k, hk, rfl⟩ := List.mem_map.mp h
  have hk := List.mem_range.mp hk
  match k, hk with
  | 0, _ => exact g_309
  | 1, _ => exact g_311
  | 2, _ => exact g_313
  | 3, _ => exact g_315
  | 4, _ => exact g_317
  | 5, _ => exact g_319
  | k + 6, hk => omega
theorem inW6 : ∀ w ∈ u_ws RX6 TX6 17, w ∈ WG := by
  intro w h
  obtain ⟨k, hk, rfl⟩ := List.mem_map.mp h
  have hk := List.mem_range.mp hk
  match k, hk with
  | 0, _ => exact g_1050
  | 1, _ => exact g_1052
  | 2, _ => exact g_1054
  | 3, _ => exact g_1056
  | 4, _ => exact g_1058
  | 5, _ => exact g_1060
  | 6, _ => exact g_1062
  | 7, _ => exact g_1064
  | 8, _ => exact g_1066
  | 9, _ => exact g_1068
  | 10, _ => exact g_1070
  | 11, _ => exact g_1072
  | 12, _ => exact g_1074
  | 13, _ => exact g_1076
  | 14, _ => exact g_1078
  | 15, _ => exact g_1080
  | 16, _ => exact g_1082
  | k + 17, hk => omega
