theorem lay_0 : ∀ k, k < zN 0 → u_lay RX0 TX0 k ∈ zgw := fun k hk => match k, hk with
  | 0, _ => zgw_of 132 (by decide +kernel) rfl
  | 1, _ => zgw_of 134 (by decide +kernel) rfl
  | k + 2, hk => absurd hk (by show ¬ k + 2 < 2; omega)
theorem cl_0 : zCl 0 RX0 TX0 := ⟨rfl, fun w hw => by obtain ⟨k, hk, rfl⟩ := List.mem_map.mp hw; exact lay_0 k (List.mem_range.mp hk), tyX0_ok, nmX0⟩
theorem tb_0 : ∀ j, j < zN 0 → zTyb (zty 0 j) = true := by decide +kernel
theorem lay_2 : ∀ k, k < zN 2 → u_lay RX2 TX2 k ∈ zgw := fun k hk => match k, hk with
  | 0, _ => zgw_of 152 (by decide +kernel) rfl
  | 1, _ => zgw_of 154 (by decide +kernel) rfl
  | 2, _ => zgw_of 156 (by decide +kernel) rfl
  | k + 3, hk => absurd hk (by show ¬ k + 3 < 3; omega)
theorem cl_2 : zCl 2 RX2 TX2 := ⟨rfl, fun w hw => by obtain ⟨k, hk, rfl⟩ := List.mem_map.mp hw; exact lay_2 k (List.mem_range.mp hk), tyX2_ok, nmX2⟩
theorem tb_2 : ∀ j, j < zN 2 → zTyb (zty 2 j) = true := by decide +kernel
theorem lay_3 : ∀ k, k < zN 3 → u_lay RX3 TX3 k ∈ zgw := fun k hk => match k, hk with
  | 0, _ => zgw_of 350 (by decide +kernel) rfl
  | 1, _ => zgw_of 352 (by decide +kernel) rfl
  | 2, _ => zgw_of 354 (by decide +kernel) rfl
  | 3, _ => zgw_of 356 (by decide +kernel) rfl
  | 4, _ => zgw_of 358 (by decide +kernel) rfl
  | 5, _ => zgw_of 360 (by decide +kernel) rfl
  | 6, _ => zgw_of 362 (by decide +kernel) rfl
  | 7, _ => zgw_of 364 (by decide +kernel) rfl
  | k + 8, hk => absurd hk (by show ¬ k + 8 < 8; omega)
theorem cl_3 : zCl 3 RX3 TX3 := ⟨rfl, fun w hw => by obtain ⟨k, hk, rfl⟩ := List.mem_map.mp hw; exact lay_3 k (List.mem_range.mp hk), tyX3_ok, nmX3⟩
theorem tb_3 : ∀ j, j < zN 3 → zTyb (zty 3 j) = true := by decide +kernel
theorem lay_4 : ∀ k, k < zN 4 → u_lay RX4 TX4 k ∈ zgw := fun k hk => match k, hk with
  | 0, _ => zgw_of 174 (by decide +kernel) rfl
  | 1, _ => zgw_of 176 (by decide +kernel) rfl
  | 2, _ => zgw_of 178 (by decide +kernel) rfl
  | 3, _ => zgw_of 180 (by decide +kernel) rfl
  | k + 4, hk => absurd hk (by show ¬ k + 4 < 4; omega)
theorem cl_4 : zCl 4 RX4 TX4 := ⟨rfl, fun w hw => by obtain ⟨k, hk, rfl⟩ := List.mem_map.mp hw; exact lay_4 k (List.mem_range.mp hk), tyX4_ok, nmX4⟩
theorem tb_4 : ∀ j, j < zN 4 → zTyb (zty 4 j) = true := by decide +kernel
theorem lay_5 : ∀ k, k < zN 5 → u_lay RX5 TX5 k ∈ zgw := fun k hk => match k, hk with
  | 0, _ => zgw_of 236 (by decide +kernel) rfl
  | 1, _ => zgw_of 238 (by decide +kernel) rfl
  | 2, _ => zgw_of 240 (by decide +kernel) rfl
  | 3, _ => zgw_of 242 (by decide +kernel) rfl
  | 4, _ => zgw_of 244 (by decide +kernel) rfl
  | 5, _ => zgw_of 246 (by decide +kernel) rfl
  | 6, _ => zgw_of 248 (by decide +kernel) rfl
  | 7, _ => zgw_of 250 (by decide +kernel) rfl
  | 8, _ => zgw_of 252 (by decide +kernel) rfl
  | 9, _ => zgw_of 254 (by decide +kernel) rfl
  | 10, _ => zgw_of 256 (by decide +kernel) rfl
  | 11, _ => zgw_of 258 (by decide +kernel) rfl
  | 12, _ => zgw_of 260 (by decide +kernel) rfl
  | k + 13, hk => absurd hk (by show ¬ k + 13 < 13; omega)
theorem cl_5 : zCl 5 RX5 TX5 := ⟨rfl, fun w hw => by obtain ⟨k, hk, rfl⟩ := List.mem_map.mp hw; exact lay_5 k (List.mem_range.mp hk), tyX5_ok, nmX5⟩
theorem tb_5 : ∀ j, j < zN 5 → zTyb (zty 5 j) = true := by decide +kernel
theorem lay_6 : ∀ k, k < zN 6 → u_lay RX6 TX6 k ∈ zgw := fun k hk => match k, hk with
  | 0, _ => zgw_of 385 (by decide +kernel) rfl
  | 1, _ => zgw_of 387 (by decide +kernel) rfl
  | 2, _ => zgw_of 389 (by decide +kernel) rfl
  | 3, _ => zgw_of 391 (by decide +kernel) rfl
  | 4, _ => zgw_of 393 (by decide +kernel) rfl
  | 5, _ => zgw_of 395 (by decide +kernel) rfl
  | 6, _ => zgw_of 397 (by decide +kernel) rfl
  | 7, _ => zgw_of 399 (by decide +kernel) rfl
  | 8, _ => zgw_of 401 (by decide +kernel) rfl
  | 9, _ => zgw_of 403 (by decide +kernel) rfl
  | 10, _ => zgw_of 405 (by decide +kernel) rfl
  | 11, _ => zgw_of 407 (by decide +kernel) rfl
  | 12, _ => zgw_of 409 (by decide +kernel) rfl
  | 13, _ => zgw_of 411 (by decide +kernel) rfl
  | k + 14, hk => absurd hk (by show ¬ k + 14 < 14; omega)
theorem cl_6 : zCl 6 RX6 TX6 := ⟨rfl, fun w hw => by obtain ⟨k, hk, rfl⟩ := List.mem_map.mp hw; exact lay_6 k (List.mem_range.mp hk), tyX6_ok, nmX6⟩
theorem tb_6 : ∀ j, j < zN 6 → zTyb (zty 6 j) = true := by decide +kernel
theorem lay_7 : ∀ k, k < zN 7 → u_lay RX7 TX7 k ∈ zgw := fun k hk => match k, hk with
  | 0, _ => zgw_of 306 (by decide +kernel) rfl
  | 1, _ => zgw_of 308 (by decide +kernel) rfl
  | 2, _ => zgw_of 310 (by decide +kernel) rfl
  | k + 3, hk => absurd hk (by show ¬ k + 3 < 3; omega)
theorem cl_7 : zCl 7 RX7 TX7 := ⟨rfl, fun w hw => by obtain ⟨k, hk, rfl⟩ := List.mem_map.mp hw; exact lay_7 k (List.mem_range.mp hk), tyX7_ok, nmX7⟩
theorem tb_7 : ∀ j, j < zN 7 → zTyb (zty 7 j) = true := by decide +kernel
theorem lay_8 : ∀ k, k < zN 8 → u_lay RX8 TX8 k ∈ zgw := fun k hk => match k, hk with
  | 0, _ => zgw_of 270 (by decide +kernel) rfl
  | 1, _ => zgw_of 272 (by decide +kernel) rfl
  | k + 2, hk => absurd hk (by show ¬ k + 2 < 2; omega)
theorem cl_8 : zCl 8 RX8 TX8 := ⟨rfl, fun w hw => by obtain ⟨k, hk, rfl⟩ := List.mem_map.mp hw; exact lay_8 k (List.mem_range.mp hk), tyX8_ok, nmX8⟩
theorem tb_8 : ∀ j, j < zN 8 → zTyb (zty 8 j) = true := by decide +kernel
theorem lay_9 : ∀ k, k < zN 9 → u_lay RX9 TX9 k ∈ zgw := fun k hk => match k, hk with
  | 0, _ => zgw_of 286 (by decide +kernel) rfl
  | 1, _ => zgw_of 288 (by decide +kernel) rfl
  | 2, _ => zgw_of 290 (by decide +kernel) rfl
  | 3, _ => zgw_of 292 (by decide +kernel) rfl
  | 4, _ => zgw_of 294 (by decide +kernel) rfl
  | k + 5, hk => absurd hk (by show ¬ k + 5 < 5; omega)
theorem cl_9 : zCl 9 RX9 TX9 := ⟨rfl, fun w hw => by obtain ⟨k, hk, rfl⟩ := List.mem_map.mp hw; exact lay_9 k (List.mem_range.mp hk), tyX9_ok, nmX9⟩
theorem tb_9 : ∀ j, j < zN 9 → zTyb (zty 9 j) = true := by decide +kernel
theorem lay_10 : ∀ k, k < zN 10 → u_lay RX10 TX10 k ∈ zgw := fun k hk => match k, hk with
  | 0, _ => zgw_of 427 (by decide +kernel) rfl
  | 1, _ => zgw_of 429 (by decide +kernel) rfl
  | 2, _ => zgw_of 431 (by decide +kernel) rfl
  | 3, _ => zgw_of 433 (by decide +kernel) rfl
  | 4, _ => zgw_of 435 (by decide +kernel) rfl
  | 5, _ => zgw_of 437 (by decide +kernel) rfl
  | 6, _ => zgw_of 439 (by decide +kernel) rfl
  | 7, _ => zgw_of 441 (by decide +kernel) rfl
  | 8, _ => zgw_of 443 (by decide +kernel) rfl
  | 9, _ => zgw_of 445 (by decide +kernel) rfl
  | 10, _ => zgw_of 447 (by decide +kernel) rfl
  | 11, _ => zgw_of 449 (by decide +kernel) rfl
  | k + 12, hk => absurd hk (by show ¬ k + 12 < 12; omega)
theorem cl_10 : zCl 10 RX10 TX10 := ⟨rfl, fun w hw => by obtain ⟨k, hk, rfl⟩ := List.mem_map.mp hw; exact lay_10 k (List.mem_range.mp hk), tyX10_ok, nmX10⟩
theorem tb_10 : ∀ j, j < zN 10 → zTyb (zty 10 j) = true := by decide +kernel
theorem lay_11 : ∀ k, k < zN 11 → u_lay RX11 TX11 k ∈ zgw := fun k hk => match k, hk with
  | 0, _ => zgw_of 1035 (by decide +kernel) rfl
  | 1, _ => zgw_of 1037 (by decide +kernel) rfl
  | 2, _ => zgw_of 1039 (by decide +kernel) rfl
  | 3, _ => zgw_of 1041 (by decide +kernel) rfl
  | 4, _ => zgw_of 1043 (by decide +kernel) rfl
  | 5, _ => zgw_of 1045 (by decide +kernel) rfl
  | 6, _ => zgw_of 1047 (by decide +kernel) rfl
  | 7, _ => zgw_of 1049 (by decide +kernel) rfl
  | 8, _ => zgw_of 1051 (by decide +kernel) rfl
  | 9, _ => zgw_of 1053 (by decide +kernel) rfl
  | 10, _ => zgw_of 1055 (by decide +kernel) rfl
  | 11, _ => zgw_of 1057 (by decide +kernel) rfl
  | 12, _ => zgw_of 1059 (by decide +kernel) rfl
  | 13, _ => zgw_of 1061 (by decide +kernel) rfl
  | 14, _ => zgw_of 1063 (by decide +kernel) rfl
  | 15, _ => zgw_of 1065 (by decide +kernel) rfl
  | 16, _ => zgw_of 1067 (by decide +kernel) rfl
  | 17, _ => zgw_of 1069 (by decide +kernel) rfl
  | 18, _ => zgw_of 1071 (by decide +kernel) rfl
  | 19, _ => zgw_of 1073 (by decide +kernel) rfl
  | 20, _ => zgw_of 1075 (by decide +kernel) rfl
  | 21, _ => zgw_of 1077 (by decide +kernel) rfl
  | 22, _ => zgw_of 1079 (by decide +kernel) rfl
  | 23, _ => zgw_of 1081 (by decide +kernel) rfl
  | 24, _ => zgw_of 1083 (by decide +kernel) rfl
  | 25, _ => zgw_of 1085 (by decide +kernel) rfl
  | 26, _ => zgw_of 1087 (by decide +kernel) rfl
  | 27, _ => zgw_of 1089 (by decide +kernel) rfl
  | 28, _ => zgw_of 1091 (by decide +kernel) rfl
  | 29, _ => zgw_of 1093 (by decide +kernel) rfl
  | 30, _ => zgw_of 1095 (by decide +kernel) rfl
  | 31, _ => zgw_of 1097 (by decide +kernel) rfl
  | 32, _ => zgw_of 1099 (by decide +kernel) rfl
  | 33, _ => zgw_of 1101 (by decide +kernel) rfl
  | 34, _ => zgw_of 1103 (by decide +kernel) rfl
  | 35, _ => zgw_of 1105 (by decide +kernel) rfl
  | 36, _ => zgw_of 1107 (by decide +kernel) rfl
  | 37, _ => zgw_of 1109 (by decide +kernel) rfl
  | 38, _ => zgw_of 1111 (by decide +kernel) rfl
  | 39, _ => zgw_of 1113 (by decide +kernel) rfl
  | 40, _ => zgw_of 1115 (by decide +kernel) rfl
  | 41, _ => zgw_of 1117 (by decide +kernel) rfl
  | 42, _ => zgw_of 1119 (by decide +kernel) rfl
  | 43, _ => zgw_of 1121 (by decide +kernel) rfl
  | 44, _ => zgw_of 1123 (by decide +kernel) rfl
  | k + 45, hk => absurd hk (by show ¬ k + 45 < 45; omega)
theorem cl_11 : zCl 11 RX11 TX11 := ⟨rfl, fun w hw => by obtain ⟨k, hk, rfl⟩ := List.mem_map.mp hw; exact lay_11 k (List.mem_range.mp hk), tyX11_ok, nmX11⟩
theorem tb_11 : ∀ j, j < zN 11 → zTyb (zty 11 j) = true := by decide +kernel
theorem fk_X0_15 : zFd RX0 15 0 0 RX0 TX0 := ⟨cl_0, by decide, (zgw_of 124 (by decide +kernel) rfl)⟩
theorem fk_X9_55 : zFd RX9 55 0 0 RX0 TX0 := ⟨cl_0, by decide, (zgw_of 125 (by decide +kernel) rfl)⟩
theorem fk_X0_21 : zFd RX0 21 0 1 RX0 TX0 := ⟨cl_0, by decide, (zgw_of 126 (by decide +kernel) rfl)⟩
theorem fk_X7_22 : zFd RX7 22 0 1 RX0 TX0 := ⟨cl_0, by decide, (zgw_of 127 (by decide +kernel) rfl)⟩
theorem fk_X10_95 : zFd RX10 95 0 1 RX0 TX0 := ⟨cl_0, by decide, (zgw_of 128 (by decide +kernel) rfl)⟩
theorem fk_X9_52 : zFd RX9 52 0 1 RX0 TX0 := ⟨cl_0, by decide, (zgw_of 129 (by decide +kernel) rfl)⟩
theorem fk_X2_31 : zFd RX2 31 0 1 RX0 TX0 := ⟨cl_0, by decide, (zgw_of 130 (by decide +kernel) rfl)⟩
theorem fk_X6_145 : zFd RX6 145 0 1 RX0 TX0 := ⟨cl_0, by decide, (zgw_of 131 (by decide +kernel) rfl)⟩
theorem fk_X2_14 : zFd RX2 14 2 0 RX2 TX2 := ⟨cl_2, by decide, (zgw_of 146 (by decide +kernel) rfl)⟩
theorem fk_X10_69 : zFd RX10 69 2 0 RX2 TX2 := ⟨cl_2, by decide, (zgw_of 147 (by decide +kernel) rfl)⟩
theorem fk_X2_20 : zFd RX2 20 2 1 RX2 TX2 := ⟨cl_2, by decide, (zgw_of 148 (by decide +kernel) rfl)⟩
theorem fk_X10_154 : zFd RX10 154 2 1 RX2 TX2 := ⟨cl_2, by decide, (zgw_of 149 (by decide +kernel) rfl)⟩
theorem fk_X2_24 : zFd RX2 24 2 2 RX2 TX2 := ⟨cl_2, by decide, (zgw_of 150 (by decide +kernel) rfl)⟩
theorem fk_X10_157 : zFd RX10 157 2 2 RX2 TX2 := ⟨cl_2, by decide, (zgw_of 151 (by decide +kernel) rfl)⟩
theorem fk_X4_7 : zFd RX4 7 4 0 RX4 TX4 := ⟨cl_4, by decide, (zgw_of 168 (by decide +kernel) rfl)⟩
theorem fk_X4_15 : zFd RX4 15 4 1 RX4 TX4 := ⟨cl_4, by decide, (zgw_of 169 (by decide +kernel) rfl)⟩
theorem fk_X4_20 : zFd RX4 20 4 2 RX4 TX4 := ⟨cl_4, by decide, (zgw_of 170 (by decide +kernel) rfl)⟩
theorem fk_X10_239 : zFd RX10 239 4 2 RX4 TX4 := ⟨cl_4, by decide, (zgw_of 171 (by decide +kernel) rfl)⟩
theorem fk_X4_24 : zFd RX4 24 4 3 RX4 TX4 := ⟨cl_4, by decide, (zgw_of 172 (by decide +kernel) rfl)⟩
theorem fk_X10_245 : zFd RX10 245 4 3 RX4 TX4 := ⟨cl_4, by decide, (zgw_of 173 (by decide +kernel) rfl)⟩
theorem fk_X5_9 : zFd RX5 9 5 0 RX5 TX5 := ⟨cl_5, by decide, (zgw_of 197 (by decide +kernel) rfl)⟩
theorem fk_X6_91 : zFd RX6 91 5 0 RX5 TX5 := ⟨cl_5, by decide, (zgw_of 198 (by decide +kernel) rfl)⟩
theorem fk_X9_106 : zFd RX9 106 5 0 RX5 TX5 := ⟨cl_5, by decide, (zgw_of 199 (by decide +kernel) rfl)⟩
theorem fk_X5_13 : zFd RX5 13 5 1 RX5 TX5 := ⟨cl_5, by decide, (zgw_of 200 (by decide +kernel) rfl)⟩
theorem fk_X8_30 : zFd RX8 30 5 1 RX5 TX5 := ⟨cl_5, by decide, (zgw_of 201 (by decide +kernel) rfl)⟩
theorem fk_X6_111 : zFd RX6 111 5 1 RX5 TX5 := ⟨cl_5, by decide, (zgw_of 202 (by decide +kernel) rfl)⟩
theorem fk_X9_118 : zFd RX9 118 5 1 RX5 TX5 := ⟨cl_5, by decide, (zgw_of 203 (by decide +kernel) rfl)⟩
theorem fk_X5_16 : zFd RX5 16 5 2 RX5 TX5 := ⟨cl_5, by decide, (zgw_of 204 (by decide +kernel) rfl)⟩
theorem fk_X6_142 : zFd RX6 142 5 2 RX5 TX5 := ⟨cl_5, by decide, (zgw_of 205 (by decide +kernel) rfl)⟩
theorem fk_X9_134 : zFd RX9 134 5 2 RX5 TX5 := ⟨cl_5, by decide, (zgw_of 206 (by decide +kernel) rfl)⟩
theorem fk_X5_19 : zFd RX5 19 5 3 RX5 TX5 := ⟨cl_5, by decide, (zgw_of 207 (by decide +kernel) rfl)⟩
theorem fk_X6_151 : zFd RX6 151 5 3 RX5 TX5 := ⟨cl_5, by decide, (zgw_of 208 (by decide +kernel) rfl)⟩
theorem fk_X9_135 : zFd RX9 135 5 3 RX5 TX5 := ⟨cl_5, by decide, (zgw_of 209 (by decide +kernel) rfl)⟩
theorem fk_X5_23 : zFd RX5 23 5 4 RX5 TX5 := ⟨cl_5, by decide, (zgw_of 210 (by decide +kernel) rfl)⟩
theorem fk_X8_27 : zFd RX8 27 5 4 RX5 TX5 := ⟨cl_5, by decide, (zgw_of 211 (by decide +kernel) rfl)⟩
theorem fk_X8_24 : zFd RX8 24 5 5 RX5 TX5 := ⟨cl_5, by decide, (zgw_of 212 (by decide +kernel) rfl)⟩
theorem fk_X6_70 : zFd RX6 70 5 5 RX5 TX5 := ⟨cl_5, by decide, (zgw_of 213 (by decide +kernel) rfl)⟩
theorem fk_X9_90 : zFd RX9 90 5 5 RX5 TX5 := ⟨cl_5, by decide, (zgw_of 214 (by decide +kernel) rfl)⟩
theorem fk_X5_26 : zFd RX5 26 5 6 RX5 TX5 := ⟨cl_5, by decide, (zgw_of 215 (by decide +kernel) rfl)⟩
theorem fk_X6_85 : zFd RX6 85 5 6 RX5 TX5 := ⟨cl_5, by decide, (zgw_of 216 (by decide +kernel) rfl)⟩
theorem fk_X9_100 : zFd RX9 100 5 6 RX5 TX5 := ⟨cl_5, by decide, (zgw_of 217 (by decide +kernel) rfl)⟩
theorem fk_X5_29 : zFd RX5 29 5 7 RX5 TX5 := ⟨cl_5, by decide, (zgw_of 218 (by decide +kernel) rfl)⟩
theorem fk_X6_88 : zFd RX6 88 5 7 RX5 TX5 := ⟨cl_5, by decide, (zgw_of 219 (by decide +kernel) rfl)⟩
theorem fk_X9_103 : zFd RX9 103 5 7 RX5 TX5 := ⟨cl_5, by decide, (zgw_of 220 (by decide +kernel) rfl)⟩
theorem fk_X5_32 : zFd RX5 32 5 8 RX5 TX5 := ⟨cl_5, by decide, (zgw_of 221 (by decide +kernel) rfl)⟩
theorem fk_X6_114 : zFd RX6 114 5 8 RX5 TX5 := ⟨cl_5, by decide, (zgw_of 222 (by decide +kernel) rfl)⟩
theorem fk_X9_151 : zFd RX9 151 5 8 RX5 TX5 := ⟨cl_5, by decide, (zgw_of 223 (by decide +kernel) rfl)⟩
theorem fk_X5_35 : zFd RX5 35 5 9 RX5 TX5 := ⟨cl_5, by decide, (zgw_of 224 (by decide +kernel) rfl)⟩
theorem fk_X6_118 : zFd RX6 118 5 9 RX5 TX5 := ⟨cl_5, by decide, (zgw_of 225 (by decide +kernel) rfl)⟩
theorem fk_X9_148 : zFd RX9 148 5 9 RX5 TX5 := ⟨cl_5, by decide, (zgw_of 226 (by decide +kernel) rfl)⟩
theorem fk_X5_38 : zFd RX5 38 5 10 RX5 TX5 := ⟨cl_5, by decide, (zgw_of 227 (by decide +kernel) rfl)⟩
theorem fk_X6_97 : zFd RX6 97 5 10 RX5 TX5 := ⟨cl_5, by decide, (zgw_of 228 (by decide +kernel) rfl)⟩
theorem fk_X9_109 : zFd RX9 109 5 10 RX5 TX5 := ⟨cl_5, by decide, (zgw_of 229 (by decide +kernel) rfl)⟩
theorem fk_X5_41 : zFd RX5 41 5 11 RX5 TX5 := ⟨cl_5, by decide, (zgw_of 230 (by decide +kernel) rfl)⟩
theorem fk_X6_155 : zFd RX6 155 5 11 RX5 TX5 := ⟨cl_5, by decide, (zgw_of 231 (by decide +kernel) rfl)⟩
theorem fk_X9_142 : zFd RX9 142 5 11 RX5 TX5 := ⟨cl_5, by decide, (zgw_of 232 (by decide +kernel) rfl)⟩
theorem fk_X5_44 : zFd RX5 44 5 12 RX5 TX5 := ⟨cl_5, by decide, (zgw_of 233 (by decide +kernel) rfl)⟩
theorem fk_X6_161 : zFd RX6 161 5 12 RX5 TX5 := ⟨cl_5, by decide, (zgw_of 234 (by decide +kernel) rfl)⟩
theorem fk_X9_145 : zFd RX9 145 5 12 RX5 TX5 := ⟨cl_5, by decide, (zgw_of 235 (by decide +kernel) rfl)⟩
theorem fk_X8_11 : zFd RX8 11 8 0 RX8 TX8 := ⟨cl_8, by decide, (zgw_of 263 (by decide +kernel) rfl)⟩
theorem fk_X6_66 : zFd RX6 66 8 0 RX8 TX8 := ⟨cl_8, by decide, (zgw_of 264 (by decide +kernel) rfl)⟩
theorem fk_X9_73 : zFd RX9 73 8 0 RX8 TX8 := ⟨cl_8, by decide, (zgw_of 265 (by decide +kernel) rfl)⟩
theorem fk_X8_16 : zFd RX8 16 8 1 RX8 TX8 := ⟨cl_8, by decide, (zgw_of 266 (by decide +kernel) rfl)⟩
theorem fk_X9_31 : zFd RX9 31 8 1 RX8 TX8 := ⟨cl_8, by decide, (zgw_of 267 (by decide +kernel) rfl)⟩
theorem fk_X6_61 : zFd RX6 61 8 1 RX8 TX8 := ⟨cl_8, by decide, (zgw_of 268 (by decide +kernel) rfl)⟩
theorem fk_X10_106 : zFd RX10 106 8 1 RX8 TX8 := ⟨cl_8, by decide, (zgw_of 269 (by decide +kernel) rfl)⟩
theorem fk_X9_9 : zFd RX9 9 9 0 RX9 TX9 := ⟨cl_9, by decide, (zgw_of 281 (by decide +kernel) rfl)⟩
theorem fk_X9_15 : zFd RX9 15 9 1 RX9 TX9 := ⟨cl_9, by decide, (zgw_of 282 (by decide +kernel) rfl)⟩
theorem fk_X9_19 : zFd RX9 19 9 2 RX9 TX9 := ⟨cl_9, by decide, (zgw_of 283 (by decide +kernel) rfl)⟩
theorem fk_X9_25 : zFd RX9 25 9 3 RX9 TX9 := ⟨cl_9, by decide, (zgw_of 284 (by decide +kernel) rfl)⟩
theorem fk_X9_28 : zFd RX9 28 9 4 RX9 TX9 := ⟨cl_9, by decide, (zgw_of 285 (by decide +kernel) rfl)⟩
theorem fk_X7_11 : zFd RX7 11 7 0 RX7 TX7 := ⟨cl_7, by decide, (zgw_of 303 (by decide +kernel) rfl)⟩
theorem fk_X7_15 : zFd RX7 15 7 1 RX7 TX7 := ⟨cl_7, by decide, (zgw_of 304 (by decide +kernel) rfl)⟩
theorem fk_X7_18 : zFd RX7 18 7 2 RX7 TX7 := ⟨cl_7, by decide, (zgw_of 305 (by decide +kernel) rfl)⟩
theorem fk_X3_23 : zFd RX3 23 3 0 RX3 TX3 := ⟨cl_3, by decide, (zgw_of 326 (by decide +kernel) rfl)⟩
theorem fk_X6_146 : zFd RX6 146 3 0 RX3 TX3 := ⟨cl_3, by decide, (zgw_of 327 (by decide +kernel) rfl)⟩
theorem fk_X0_39 : zFd RX0 39 3 0 RX3 TX3 := ⟨cl_3, by decide, (zgw_of 328 (by decide +kernel) rfl)⟩
theorem fk_X3_26 : zFd RX3 26 3 1 RX3 TX3 := ⟨cl_3, by decide, (zgw_of 329 (by decide +kernel) rfl)⟩
theorem fk_X6_149 : zFd RX6 149 3 1 RX3 TX3 := ⟨cl_3, by decide, (zgw_of 330 (by decide +kernel) rfl)⟩
theorem fk_X0_44 : zFd RX0 44 3 1 RX3 TX3 := ⟨cl_3, by decide, (zgw_of 331 (by decide +kernel) rfl)⟩
theorem fk_X3_17 : zFd RX3 17 3 2 RX3 TX3 := ⟨cl_3, by decide, (zgw_of 332 (by decide +kernel) rfl)⟩
theorem fk_X1_9 : zFd RX1 9 3 2 RX3 TX3 := ⟨cl_3, by decide, (zgw_of 333 (by decide +kernel) rfl)⟩
theorem fk_X6_150 : zFd RX6 150 3 2 RX3 TX3 := ⟨cl_3, by decide, (zgw_of 334 (by decide +kernel) rfl)⟩
theorem fk_X0_51 : zFd RX0 51 3 2 RX3 TX3 := ⟨cl_3, by decide, (zgw_of 335 (by decide +kernel) rfl)⟩
theorem fk_X3_34 : zFd RX3 34 3 3 RX3 TX3 := ⟨cl_3, by decide, (zgw_of 336 (by decide +kernel) rfl)⟩
theorem fk_X6_154 : zFd RX6 154 3 3 RX3 TX3 := ⟨cl_3, by decide, (zgw_of 337 (by decide +kernel) rfl)⟩
theorem fk_X0_45 : zFd RX0 45 3 3 RX3 TX3 := ⟨cl_3, by decide, (zgw_of 338 (by decide +kernel) rfl)⟩
theorem fk_X1_20 : zFd RX1 20 3 4 RX3 TX3 := ⟨cl_3, by decide, (zgw_of 339 (by decide +kernel) rfl)⟩
theorem fk_X3_38 : zFd RX3 38 3 4 RX3 TX3 := ⟨cl_3, by decide, (zgw_of 340 (by decide +kernel) rfl)⟩
theorem fk_X6_158 : zFd RX6 158 3 4 RX3 TX3 := ⟨cl_3, by decide, (zgw_of 341 (by decide +kernel) rfl)⟩
theorem fk_X1_23 : zFd RX1 23 3 5 RX3 TX3 := ⟨cl_3, by decide, (zgw_of 342 (by decide +kernel) rfl)⟩
theorem fk_X3_41 : zFd RX3 41 3 5 RX3 TX3 := ⟨cl_3, by decide, (zgw_of 343 (by decide +kernel) rfl)⟩
theorem fk_X6_164 : zFd RX6 164 3 5 RX3 TX3 := ⟨cl_3, by decide, (zgw_of 344 (by decide +kernel) rfl)⟩
theorem fk_X3_31 : zFd RX3 31 3 6 RX3 TX3 := ⟨cl_3, by decide, (zgw_of 345 (by decide +kernel) rfl)⟩
theorem fk_X6_167 : zFd RX6 167 3 6 RX3 TX3 := ⟨cl_3, by decide, (zgw_of 346 (by decide +kernel) rfl)⟩
theorem fk_X10_306 : zFd RX10 306 3 6 RX3 TX3 := ⟨cl_3, by decide, (zgw_of 347 (by decide +kernel) rfl)⟩
theorem fk_X3_11 : zFd RX3 11 3 7 RX3 TX3 := ⟨cl_3, by decide, (zgw_of 348 (by decide +kernel) rfl)⟩
theorem fk_X6_170 : zFd RX6 170 3 7 RX3 TX3 := ⟨cl_3, by decide, (zgw_of 349 (by decide +kernel) rfl)⟩
theorem fk_X6_13 : zFd RX6 13 6 0 RX6 TX6 := ⟨cl_6, by decide, (zgw_of 367 (by decide +kernel) rfl)⟩
theorem fk_X10_179 : zFd RX10 179 6 0 RX6 TX6 := ⟨cl_6, by decide, (zgw_of 368 (by decide +kernel) rfl)⟩
theorem fk_X6_52 : zFd RX6 52 6 1 RX6 TX6 := ⟨cl_6, by decide, (zgw_of 369 (by decide +kernel) rfl)⟩
theorem fk_X10_199 : zFd RX10 199 6 1 RX6 TX6 := ⟨cl_6, by decide, (zgw_of 370 (by decide +kernel) rfl)⟩
theorem fk_X6_58 : zFd RX6 58 6 2 RX6 TX6 := ⟨cl_6, by decide, (zgw_of 371 (by decide +kernel) rfl)⟩
theorem fk_X10_285 : zFd RX10 285 6 2 RX6 TX6 := ⟨cl_6, by decide, (zgw_of 372 (by decide +kernel) rfl)⟩
theorem fk_X6_49 : zFd RX6 49 6 3 RX6 TX6 := ⟨cl_6, by decide, (zgw_of 373 (by decide +kernel) rfl)⟩
theorem fk_X10_288 : zFd RX10 288 6 3 RX6 TX6 := ⟨cl_6, by decide, (zgw_of 374 (by decide +kernel) rfl)⟩
theorem fk_X6_18 : zFd RX6 18 6 4 RX6 TX6 := ⟨cl_6, by decide, (zgw_of 375 (by decide +kernel) rfl)⟩
theorem fk_X6_22 : zFd RX6 22 6 5 RX6 TX6 := ⟨cl_6, by decide, (zgw_of 376 (by decide +kernel) rfl)⟩
theorem fk_X6_45 : zFd RX6 45 6 6 RX6 TX6 := ⟨cl_6, by decide, (zgw_of 377 (by decide +kernel) rfl)⟩
theorem fk_X6_55 : zFd RX6 55 6 7 RX6 TX6 := ⟨cl_6, by decide, (zgw_of 378 (by decide +kernel) rfl)⟩
theorem fk_X6_28 : zFd RX6 28 6 8 RX6 TX6 := ⟨cl_6, by decide, (zgw_of 379 (by decide +kernel) rfl)⟩
theorem fk_X6_32 : zFd RX6 32 6 9 RX6 TX6 := ⟨cl_6, by decide, (zgw_of 380 (by decide +kernel) rfl)⟩
theorem fk_X6_36 : zFd RX6 36 6 10 RX6 TX6 := ⟨cl_6, by decide, (zgw_of 381 (by decide +kernel) rfl)⟩
theorem fk_X6_39 : zFd RX6 39 6 11 RX6 TX6 := ⟨cl_6, by decide, (zgw_of 382 (by decide +kernel) rfl)⟩
theorem fk_X6_42 : zFd RX6 42 6 12 RX6 TX6 := ⟨cl_6, by decide, (zgw_of 383 (by decide +kernel) rfl)⟩
theorem fk_X6_177 : zFd RX6 177 6 13 RX6 TX6 := ⟨cl_6, by decide, (zgw_of 384 (by decide +kernel) rfl)⟩
theorem fk_X10_14 : zFd RX10 14 10 0 RX10 TX10 := ⟨cl_10, by decide, (zgw_of 415 (by decide +kernel) rfl)⟩
theorem fk_X10_18 : zFd RX10 18 10 1 RX10 TX10 := ⟨cl_10, by decide, (zgw_of 416 (by decide +kernel) rfl)⟩
theorem fk_X10_21 : zFd RX10 21 10 2 RX10 TX10 := ⟨cl_10, by decide, (zgw_of 417 (by decide +kernel) rfl)⟩
theorem fk_X10_27 : zFd RX10 27 10 3 RX10 TX10 := ⟨cl_10, by decide, (zgw_of 418 (by decide +kernel) rfl)⟩
theorem fk_X10_36 : zFd RX10 36 10 4 RX10 TX10 := ⟨cl_10, by decide, (zgw_of 419 (by decide +kernel) rfl)⟩
theorem fk_X10_42 : zFd RX10 42 10 5 RX10 TX10 := ⟨cl_10, by decide, (zgw_of 420 (by decide +kernel) rfl)⟩
theorem fk_X10_56 : zFd RX10 56 10 6 RX10 TX10 := ⟨cl_10, by decide, (zgw_of 421 (by decide +kernel) rfl)⟩
theorem fk_X10_63 : zFd RX10 63 10 7 RX10 TX10 := ⟨cl_10, by decide, (zgw_of 422 (by decide +kernel) rfl)⟩
theorem fk_X10_75 : zFd RX10 75 10 8 RX10 TX10 := ⟨cl_10, by decide, (zgw_of 423 (by decide +kernel) rfl)⟩
theorem fk_X10_79 : zFd RX10 79 10 9 RX10 TX10 := ⟨cl_10, by decide, (zgw_of 424 (by decide +kernel) rfl)⟩
theorem fk_X10_47 : zFd RX10 47 10 10 RX10 TX10 := ⟨cl_10, by decide, (zgw_of 425 (by decide +kernel) rfl)⟩
theorem fk_X10_83 : zFd RX10 83 10 11 RX10 TX10 := ⟨cl_10, by decide, (zgw_of 426 (by decide +kernel) rfl)⟩
theorem fk_X11_7 : zFd RX11 7 11 0 RX11 TX11 := ⟨cl_11, by decide, (zgw_of 990 (by decide +kernel) rfl)⟩
theorem fk_X11_13 : zFd RX11 13 11 1 RX11 TX11 := ⟨cl_11, by decide, (zgw_of 991 (by decide +kernel) rfl)⟩
theorem fk_X11_317 : zFd RX11 317 11 2 RX11 TX11 := ⟨cl_11, by decide, (zgw_of 992 (by decide +kernel) rfl)⟩
theorem fk_X11_16 : zFd RX11 16 11 3 RX11 TX11 := ⟨cl_11, by decide, (zgw_of 993 (by decide +kernel) rfl)⟩
theorem fk_X11_320 : zFd RX11 320 11 4 RX11 TX11 := ⟨cl_11, by decide, (zgw_of 994 (by decide +kernel) rfl)⟩
theorem fk_X11_19 : zFd RX11 19 11 5 RX11 TX11 := ⟨cl_11, by decide, (zgw_of 995 (by decide +kernel) rfl)⟩
theorem fk_X11_310 : zFd RX11 310 11 6 RX11 TX11 := ⟨cl_11, by decide, (zgw_of 996 (by decide +kernel) rfl)⟩
theorem fk_X11_22 : zFd RX11 22 11 7 RX11 TX11 := ⟨cl_11, by decide, (zgw_of 997 (by decide +kernel) rfl)⟩
theorem fk_X11_340 : zFd RX11 340 11 8 RX11 TX11 := ⟨cl_11, by decide, (zgw_of 998 (by decide +kernel) rfl)⟩
theorem fk_X11_25 : zFd RX11 25 11 9 RX11 TX11 := ⟨cl_11, by decide, (zgw_of 999 (by decide +kernel) rfl)⟩
theorem fk_X11_366 : zFd RX11 366 11 10 RX11 TX11 := ⟨cl_11, by decide, (zgw_of 1000 (by decide +kernel) rfl)⟩
theorem fk_X11_28 : zFd RX11 28 11 11 RX11 TX11 := ⟨cl_11, by decide, (zgw_of 1001 (by decide +kernel) rfl)⟩
theorem fk_X11_97 : zFd RX11 97 11 12 RX11 TX11 := ⟨cl_11, by decide, (zgw_of 1002 (by decide +kernel) rfl)⟩
theorem fk_X11_31 : zFd RX11 31 11 13 RX11 TX11 := ⟨cl_11, by decide, (zgw_of 1003 (by decide +kernel) rfl)⟩
theorem fk_X11_34 : zFd RX11 34 11 14 RX11 TX11 := ⟨cl_11, by decide, (zgw_of 1004 (by decide +kernel) rfl)⟩
theorem fk_X11_101 : zFd RX11 101 11 15 RX11 TX11 := ⟨cl_11, by decide, (zgw_of 1005 (by decide +kernel) rfl)⟩
theorem fk_X11_108 : zFd RX11 108 11 16 RX11 TX11 := ⟨cl_11, by decide, (zgw_of 1006 (by decide +kernel) rfl)⟩
theorem fk_X11_122 : zFd RX11 122 11 17 RX11 TX11 := ⟨cl_11, by decide, (zgw_of 1007 (by decide +kernel) rfl)⟩
theorem fk_X11_132 : zFd RX11 132 11 18 RX11 TX11 := ⟨cl_11, by decide, (zgw_of 1008 (by decide +kernel) rfl)⟩
theorem fk_X11_183 : zFd RX11 183 11 19 RX11 TX11 := ⟨cl_11, by decide, (zgw_of 1009 (by decide +kernel) rfl)⟩
theorem fk_X11_186 : zFd RX11 186 11 20 RX11 TX11 := ⟨cl_11, by decide, (zgw_of 1010 (by decide +kernel) rfl)⟩
theorem fk_X11_37 : zFd RX11 37 11 21 RX11 TX11 := ⟨cl_11, by decide, (zgw_of 1011 (by decide +kernel) rfl)⟩
theorem fk_X11_212 : zFd RX11 212 11 22 RX11 TX11 := ⟨cl_11, by decide, (zgw_of 1012 (by decide +kernel) rfl)⟩
theorem fk_X11_40 : zFd RX11 40 11 23 RX11 TX11 := ⟨cl_11, by decide, (zgw_of 1013 (by decide +kernel) rfl)⟩
theorem fk_X11_43 : zFd RX11 43 11 24 RX11 TX11 := ⟨cl_11, by decide, (zgw_of 1014 (by decide +kernel) rfl)⟩
theorem fk_X11_46 : zFd RX11 46 11 25 RX11 TX11 := ⟨cl_11, by decide, (zgw_of 1015 (by decide +kernel) rfl)⟩
theorem fk_X11_49 : zFd RX11 49 11 26 RX11 TX11 := ⟨cl_11, by decide, (zgw_of 1016 (by decide +kernel) rfl)⟩
theorem fk_X11_52 : zFd RX11 52 11 27 RX11 TX11 := ⟨cl_11, by decide, (zgw_of 1017 (by decide +kernel) rfl)⟩
theorem fk_X11_55 : zFd RX11 55 11 28 RX11 TX11 := ⟨cl_11, by decide, (zgw_of 1018 (by decide +kernel) rfl)⟩
theorem fk_X11_58 : zFd RX11 58 11 29 RX11 TX11 := ⟨cl_11, by decide, (zgw_of 1019 (by decide +kernel) rfl)⟩
theorem fk_X11_61 : zFd RX11 61 11 30 RX11 TX11 := ⟨cl_11, by decide, (zgw_of 1020 (by decide +kernel) rfl)⟩
theorem fk_X11_235 : zFd RX11 235 11 31 RX11 TX11 := ⟨cl_11, by decide, (zgw_of 1021 (by decide +kernel) rfl)⟩
theorem fk_X11_238 : zFd RX11 238 11 32 RX11 TX11 := ⟨cl_11, by decide, (zgw_of 1022 (by decide +kernel) rfl)⟩
theorem fk_X11_241 : zFd RX11 241 11 33 RX11 TX11 := ⟨cl_11, by decide, (zgw_of 1023 (by decide +kernel) rfl)⟩
theorem fk_X11_263 : zFd RX11 263 11 34 RX11 TX11 := ⟨cl_11, by decide, (zgw_of 1024 (by decide +kernel) rfl)⟩
theorem fk_X11_64 : zFd RX11 64 11 35 RX11 TX11 := ⟨cl_11, by decide, (zgw_of 1025 (by decide +kernel) rfl)⟩
theorem fk_X11_68 : zFd RX11 68 11 36 RX11 TX11 := ⟨cl_11, by decide, (zgw_of 1026 (by decide +kernel) rfl)⟩
theorem fk_X11_71 : zFd RX11 71 11 37 RX11 TX11 := ⟨cl_11, by decide, (zgw_of 1027 (by decide +kernel) rfl)⟩
theorem fk_X11_74 : zFd RX11 74 11 38 RX11 TX11 := ⟨cl_11, by decide, (zgw_of 1028 (by decide +kernel) rfl)⟩
theorem fk_X11_77 : zFd RX11 77 11 39 RX11 TX11 := ⟨cl_11, by decide, (zgw_of 1029 (by decide +kernel) rfl)⟩
theorem fk_X11_80 : zFd RX11 80 11 40 RX11 TX11 := ⟨cl_11, by decide, (zgw_of 1030 (by decide +kernel) rfl)⟩
theorem fk_X11_244 : zFd RX11 244 11 41 RX11 TX11 := ⟨cl_11, by decide, (zgw_of 1031 (by decide +kernel) rfl)⟩
theorem fk_X11_83 : zFd RX11 83 11 42 RX11 TX11 := ⟨cl_11, by decide, (zgw_of 1032 (by decide +kernel) rfl)⟩
theorem fk_X11_86 : zFd RX11 86 11 43 RX11 TX11 := ⟨cl_11, by decide, (zgw_of 1033 (by decide +kernel) rfl)⟩
theorem fk_X11_377 : zFd RX11 377 11 44 RX11 TX11 := ⟨cl_11, by decide, (zgw_of 1034 (by decide +kernel) rfl)⟩
