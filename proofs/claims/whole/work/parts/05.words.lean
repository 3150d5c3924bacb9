set_option maxRecDepth 100000 in
theorem kin_0 : ∀ w ∈ u_ws RX0 TX0 3, w ∈ lw_g := by decide +kernel
theorem kcl_0 : ks_Cls 0 RX0 TX0 3 tyX0 := ⟨rfl, kin_0, tyX0_ok, nmX0⟩
set_option maxRecDepth 100000 in
theorem kin_1 : ∀ w ∈ u_ws RX1 TX1 4, w ∈ lw_g := by decide +kernel
theorem kcl_1 : ks_Cls 1 RX1 TX1 4 tyX1 := ⟨rfl, kin_1, tyX1_ok, nmX1⟩
set_option maxRecDepth 100000 in
theorem kin_2 : ∀ w ∈ u_ws RX2 TX2 2, w ∈ lw_g := by decide +kernel
theorem kcl_2 : ks_Cls 2 RX2 TX2 2 tyX2 := ⟨rfl, kin_2, tyX2_ok, nmX2⟩
set_option maxRecDepth 100000 in
theorem kin_3 : ∀ w ∈ u_ws RX3 TX3 4, w ∈ lw_g := by decide +kernel
theorem kcl_3 : ks_Cls 3 RX3 TX3 4 tyX3 := ⟨rfl, kin_3, tyX3_ok, nmX3⟩
set_option maxRecDepth 100000 in
theorem kin_4 : ∀ w ∈ u_ws RX4 TX4 14, w ∈ lw_g := by decide +kernel
theorem kcl_4 : ks_Cls 4 RX4 TX4 14 tyX4 := ⟨rfl, kin_4, tyX4_ok, nmX4⟩
set_option maxRecDepth 100000 in
theorem kin_5 : ∀ w ∈ u_ws RX5 TX5 3, w ∈ lw_g := by decide +kernel
theorem kcl_5 : ks_Cls 5 RX5 TX5 3 tyX5 := ⟨rfl, kin_5, tyX5_ok, nmX5⟩
set_option maxRecDepth 100000 in
theorem kin_6 : ∀ w ∈ u_ws RX6 TX6 6, w ∈ lw_g := by decide +kernel
theorem kcl_6 : ks_Cls 6 RX6 TX6 6 tyX6 := ⟨rfl, kin_6, tyX6_ok, nmX6⟩
set_option maxRecDepth 100000 in
theorem kin_7 : ∀ w ∈ u_ws RX7 TX7 10, w ∈ lw_g := by decide +kernel
theorem kcl_7 : ks_Cls 7 RX7 TX7 10 tyX7 := ⟨rfl, kin_7, tyX7_ok, nmX7⟩
set_option maxRecDepth 100000 in
theorem kf_X5_9 : ks_Fld RX5 9 5 0 (.array .int) 2 := ⟨RX5, TX5, 3, tyX5, kcl_5, by decide, ks_mg 99 (by decide +kernel) rfl, rfl, fun h => (by first | rfl | exact absurd h (by decide)), fun h => (by first | exact ⟨rfl, rfl⟩ | exact absurd h (by decide))⟩
set_option maxRecDepth 100000 in
theorem kf_X5_15 : ks_Fld RX5 15 5 1 (.array .int) 2 := ⟨RX5, TX5, 3, tyX5, kcl_5, by decide, ks_mg 100 (by decide +kernel) rfl, rfl, fun h => (by first | rfl | exact absurd h (by decide)), fun h => (by first | exact ⟨rfl, rfl⟩ | exact absurd h (by decide))⟩
set_option maxRecDepth 100000 in
theorem kf_X5_18 : ks_Fld RX5 18 5 2 (.int) 1 := ⟨RX5, TX5, 3, tyX5, kcl_5, by decide, ks_mg 101 (by decide +kernel) rfl, rfl, fun h => (by first | rfl | exact absurd h (by decide)), fun h => (by first | exact ⟨rfl, rfl⟩ | exact absurd h (by decide))⟩
set_option maxRecDepth 100000 in
theorem kf_X6_165 : ks_Fld RX6 165 5 2 (.int) 1 := ⟨RX5, TX5, 3, tyX5, kcl_5, by decide, ks_mg 102 (by decide +kernel) rfl, rfl, fun h => (by first | rfl | exact absurd h (by decide)), fun h => (by first | exact ⟨rfl, rfl⟩ | exact absurd h (by decide))⟩
set_option maxRecDepth 100000 in
theorem kf_X3_9 : ks_Fld RX3 9 3 0 (.array .int) 2 := ⟨RX3, TX3, 4, tyX3, kcl_3, by decide, ks_mg 117 (by decide +kernel) rfl, rfl, fun h => (by first | rfl | exact absurd h (by decide)), fun h => (by first | exact ⟨rfl, rfl⟩ | exact absurd h (by decide))⟩
set_option maxRecDepth 100000 in
theorem kf_X6_147 : ks_Fld RX6 147 3 0 (.array .int) 0 := ⟨RX3, TX3, 4, tyX3, kcl_3, by decide, ks_mg 118 (by decide +kernel) rfl, rfl, fun h => (by first | rfl | exact absurd h (by decide)), fun h => (by first | exact ⟨rfl, rfl⟩ | exact absurd h (by decide))⟩
set_option maxRecDepth 100000 in
theorem kf_X3_15 : ks_Fld RX3 15 3 1 (.array .int) 2 := ⟨RX3, TX3, 4, tyX3, kcl_3, by decide, ks_mg 119 (by decide +kernel) rfl, rfl, fun h => (by first | rfl | exact absurd h (by decide)), fun h => (by first | exact ⟨rfl, rfl⟩ | exact absurd h (by decide))⟩
set_option maxRecDepth 100000 in
theorem kf_X4_126 : ks_Fld RX4 126 3 1 (.array .int) 0 := ⟨RX3, TX3, 4, tyX3, kcl_3, by decide, ks_mg 120 (by decide +kernel) rfl, rfl, fun h => (by first | rfl | exact absurd h (by decide)), fun h => (by first | exact ⟨rfl, rfl⟩ | exact absurd h (by decide))⟩
set_option maxRecDepth 100000 in
theorem kf_X6_150 : ks_Fld RX6 150 3 1 (.array .int) 0 := ⟨RX3, TX3, 4, tyX3, kcl_3, by decide, ks_mg 121 (by decide +kernel) rfl, rfl, fun h => (by first | rfl | exact absurd h (by decide)), fun h => (by first | exact ⟨rfl, rfl⟩ | exact absurd h (by decide))⟩
set_option maxRecDepth 100000 in
theorem kf_X3_18 : ks_Fld RX3 18 3 2 (.array .int) 2 := ⟨RX3, TX3, 4, tyX3, kcl_3, by decide, ks_mg 122 (by decide +kernel) rfl, rfl, fun h => (by first | rfl | exact absurd h (by decide)), fun h => (by first | exact ⟨rfl, rfl⟩ | exact absurd h (by decide))⟩
set_option maxRecDepth 100000 in
theorem kf_X4_128 : ks_Fld RX4 128 3 2 (.array .int) 0 := ⟨RX3, TX3, 4, tyX3, kcl_3, by decide, ks_mg 123 (by decide +kernel) rfl, rfl, fun h => (by first | rfl | exact absurd h (by decide)), fun h => (by first | exact ⟨rfl, rfl⟩ | exact absurd h (by decide))⟩
set_option maxRecDepth 100000 in
theorem kf_X6_153 : ks_Fld RX6 153 3 2 (.array .int) 0 := ⟨RX3, TX3, 4, tyX3, kcl_3, by decide, ks_mg 124 (by decide +kernel) rfl, rfl, fun h => (by first | rfl | exact absurd h (by decide)), fun h => (by first | exact ⟨rfl, rfl⟩ | exact absurd h (by decide))⟩
set_option maxRecDepth 100000 in
theorem kf_X3_21 : ks_Fld RX3 21 3 3 (.int) 1 := ⟨RX3, TX3, 4, tyX3, kcl_3, by decide, ks_mg 125 (by decide +kernel) rfl, rfl, fun h => (by first | rfl | exact absurd h (by decide)), fun h => (by first | exact ⟨rfl, rfl⟩ | exact absurd h (by decide))⟩
set_option maxRecDepth 100000 in
theorem kf_X4_109 : ks_Fld RX4 109 3 3 (.int) 1 := ⟨RX3, TX3, 4, tyX3, kcl_3, by decide, ks_mg 126 (by decide +kernel) rfl, rfl, fun h => (by first | rfl | exact absurd h (by decide)), fun h => (by first | exact ⟨rfl, rfl⟩ | exact absurd h (by decide))⟩
set_option maxRecDepth 100000 in
theorem kf_X6_141 : ks_Fld RX6 141 3 3 (.int) 1 := ⟨RX3, TX3, 4, tyX3, kcl_3, by decide, ks_mg 127 (by decide +kernel) rfl, rfl, fun h => (by first | rfl | exact absurd h (by decide)), fun h => (by first | exact ⟨rfl, rfl⟩ | exact absurd h (by decide))⟩
set_option maxRecDepth 100000 in
theorem kf_X4_9 : ks_Fld RX4 9 4 0 (.array .int) 2 := ⟨RX4, TX4, 14, tyX4, kcl_4, by decide, ks_mg 142 (by decide +kernel) rfl, rfl, fun h => (by first | rfl | exact absurd h (by decide)), fun h => (by first | exact ⟨rfl, rfl⟩ | exact absurd h (by decide))⟩
set_option maxRecDepth 100000 in
theorem kf_X6_178 : ks_Fld RX6 178 4 0 (.array .int) 0 := ⟨RX4, TX4, 14, tyX4, kcl_4, by decide, ks_mg 143 (by decide +kernel) rfl, rfl, fun h => (by first | rfl | exact absurd h (by decide)), fun h => (by first | exact ⟨rfl, rfl⟩ | exact absurd h (by decide))⟩
set_option maxRecDepth 100000 in
theorem kf_X4_15 : ks_Fld RX4 15 4 1 (.int) 1 := ⟨RX4, TX4, 14, tyX4, kcl_4, by decide, ks_mg 144 (by decide +kernel) rfl, rfl, fun h => (by first | rfl | exact absurd h (by decide)), fun h => (by first | exact ⟨rfl, rfl⟩ | exact absurd h (by decide))⟩
set_option maxRecDepth 100000 in
theorem kf_X6_156 : ks_Fld RX6 156 4 1 (.int) 1 := ⟨RX4, TX4, 14, tyX4, kcl_4, by decide, ks_mg 145 (by decide +kernel) rfl, rfl, fun h => (by first | rfl | exact absurd h (by decide)), fun h => (by first | exact ⟨rfl, rfl⟩ | exact absurd h (by decide))⟩
set_option maxRecDepth 100000 in
theorem kf_X4_19 : ks_Fld RX4 19 4 2 (.int) 1 := ⟨RX4, TX4, 14, tyX4, kcl_4, by decide, ks_mg 146 (by decide +kernel) rfl, rfl, fun h => (by first | rfl | exact absurd h (by decide)), fun h => (by first | exact ⟨rfl, rfl⟩ | exact absurd h (by decide))⟩
set_option maxRecDepth 100000 in
theorem kf_X6_159 : ks_Fld RX6 159 4 2 (.int) 1 := ⟨RX4, TX4, 14, tyX4, kcl_4, by decide, ks_mg 147 (by decide +kernel) rfl, rfl, fun h => (by first | rfl | exact absurd h (by decide)), fun h => (by first | exact ⟨rfl, rfl⟩ | exact absurd h (by decide))⟩
set_option maxRecDepth 100000 in
theorem kf_X4_22 : ks_Fld RX4 22 4 3 (.int) 1 := ⟨RX4, TX4, 14, tyX4, kcl_4, by decide, ks_mg 148 (by decide +kernel) rfl, rfl, fun h => (by first | rfl | exact absurd h (by decide)), fun h => (by first | exact ⟨rfl, rfl⟩ | exact absurd h (by decide))⟩
set_option maxRecDepth 100000 in
theorem kf_X6_172 : ks_Fld RX6 172 4 3 (.int) 1 := ⟨RX4, TX4, 14, tyX4, kcl_4, by decide, ks_mg 149 (by decide +kernel) rfl, rfl, fun h => (by first | rfl | exact absurd h (by decide)), fun h => (by first | exact ⟨rfl, rfl⟩ | exact absurd h (by decide))⟩
set_option maxRecDepth 100000 in
theorem kf_X4_25 : ks_Fld RX4 25 4 4 (.int) 1 := ⟨RX4, TX4, 14, tyX4, kcl_4, by decide, ks_mg 150 (by decide +kernel) rfl, rfl, fun h => (by first | rfl | exact absurd h (by decide)), fun h => (by first | exact ⟨rfl, rfl⟩ | exact absurd h (by decide))⟩
set_option maxRecDepth 100000 in
theorem kf_X6_175 : ks_Fld RX6 175 4 4 (.int) 1 := ⟨RX4, TX4, 14, tyX4, kcl_4, by decide, ks_mg 151 (by decide +kernel) rfl, rfl, fun h => (by first | rfl | exact absurd h (by decide)), fun h => (by first | exact ⟨rfl, rfl⟩ | exact absurd h (by decide))⟩
set_option maxRecDepth 100000 in
theorem kf_X4_28 : ks_Fld RX4 28 4 5 (.array .int) 2 := ⟨RX4, TX4, 14, tyX4, kcl_4, by decide, ks_mg 152 (by decide +kernel) rfl, rfl, fun h => (by first | rfl | exact absurd h (by decide)), fun h => (by first | exact ⟨rfl, rfl⟩ | exact absurd h (by decide))⟩
set_option maxRecDepth 100000 in
theorem kf_X6_79 : ks_Fld RX6 79 4 5 (.array .int) 0 := ⟨RX4, TX4, 14, tyX4, kcl_4, by decide, ks_mg 153 (by decide +kernel) rfl, rfl, fun h => (by first | rfl | exact absurd h (by decide)), fun h => (by first | exact ⟨rfl, rfl⟩ | exact absurd h (by decide))⟩
set_option maxRecDepth 100000 in
theorem kf_X4_31 : ks_Fld RX4 31 4 6 (.array .int) 2 := ⟨RX4, TX4, 14, tyX4, kcl_4, by decide, ks_mg 154 (by decide +kernel) rfl, rfl, fun h => (by first | rfl | exact absurd h (by decide)), fun h => (by first | exact ⟨rfl, rfl⟩ | exact absurd h (by decide))⟩
set_option maxRecDepth 100000 in
theorem kf_X6_83 : ks_Fld RX6 83 4 6 (.array .int) 0 := ⟨RX4, TX4, 14, tyX4, kcl_4, by decide, ks_mg 155 (by decide +kernel) rfl, rfl, fun h => (by first | rfl | exact absurd h (by decide)), fun h => (by first | exact ⟨rfl, rfl⟩ | exact absurd h (by decide))⟩
set_option maxRecDepth 100000 in
theorem kf_X4_34 : ks_Fld RX4 34 4 7 (.array .int) 2 := ⟨RX4, TX4, 14, tyX4, kcl_4, by decide, ks_mg 156 (by decide +kernel) rfl, rfl, fun h => (by first | rfl | exact absurd h (by decide)), fun h => (by first | exact ⟨rfl, rfl⟩ | exact absurd h (by decide))⟩
set_option maxRecDepth 100000 in
theorem kf_X6_86 : ks_Fld RX6 86 4 7 (.array .int) 0 := ⟨RX4, TX4, 14, tyX4, kcl_4, by decide, ks_mg 157 (by decide +kernel) rfl, rfl, fun h => (by first | rfl | exact absurd h (by decide)), fun h => (by first | exact ⟨rfl, rfl⟩ | exact absurd h (by decide))⟩
set_option maxRecDepth 100000 in
theorem kf_X4_37 : ks_Fld RX4 37 4 8 (.array .int) 2 := ⟨RX4, TX4, 14, tyX4, kcl_4, by decide, ks_mg 158 (by decide +kernel) rfl, rfl, fun h => (by first | rfl | exact absurd h (by decide)), fun h => (by first | exact ⟨rfl, rfl⟩ | exact absurd h (by decide))⟩
set_option maxRecDepth 100000 in
theorem kf_X6_89 : ks_Fld RX6 89 4 8 (.array .int) 0 := ⟨RX4, TX4, 14, tyX4, kcl_4, by decide, ks_mg 159 (by decide +kernel) rfl, rfl, fun h => (by first | rfl | exact absurd h (by decide)), fun h => (by first | exact ⟨rfl, rfl⟩ | exact absurd h (by decide))⟩
set_option maxRecDepth 100000 in
theorem kf_X4_40 : ks_Fld RX4 40 4 9 (.array .int) 2 := ⟨RX4, TX4, 14, tyX4, kcl_4, by decide, ks_mg 160 (by decide +kernel) rfl, rfl, fun h => (by first | rfl | exact absurd h (by decide)), fun h => (by first | exact ⟨rfl, rfl⟩ | exact absurd h (by decide))⟩
set_option maxRecDepth 100000 in
theorem kf_X6_101 : ks_Fld RX6 101 4 9 (.array .int) 0 := ⟨RX4, TX4, 14, tyX4, kcl_4, by decide, ks_mg 161 (by decide +kernel) rfl, rfl, fun h => (by first | rfl | exact absurd h (by decide)), fun h => (by first | exact ⟨rfl, rfl⟩ | exact absurd h (by decide))⟩
set_option maxRecDepth 100000 in
theorem kf_X4_43 : ks_Fld RX4 43 4 10 (.array .int) 2 := ⟨RX4, TX4, 14, tyX4, kcl_4, by decide, ks_mg 162 (by decide +kernel) rfl, rfl, fun h => (by first | rfl | exact absurd h (by decide)), fun h => (by first | exact ⟨rfl, rfl⟩ | exact absurd h (by decide))⟩
set_option maxRecDepth 100000 in
theorem kf_X6_104 : ks_Fld RX6 104 4 10 (.array .int) 0 := ⟨RX4, TX4, 14, tyX4, kcl_4, by decide, ks_mg 163 (by decide +kernel) rfl, rfl, fun h => (by first | rfl | exact absurd h (by decide)), fun h => (by first | exact ⟨rfl, rfl⟩ | exact absurd h (by decide))⟩
set_option maxRecDepth 100000 in
theorem kf_X4_46 : ks_Fld RX4 46 4 11 (.array .int) 2 := ⟨RX4, TX4, 14, tyX4, kcl_4, by decide, ks_mg 164 (by decide +kernel) rfl, rfl, fun h => (by first | rfl | exact absurd h (by decide)), fun h => (by first | exact ⟨rfl, rfl⟩ | exact absurd h (by decide))⟩
set_option maxRecDepth 100000 in
theorem kf_X6_107 : ks_Fld RX6 107 4 11 (.array .int) 0 := ⟨RX4, TX4, 14, tyX4, kcl_4, by decide, ks_mg 165 (by decide +kernel) rfl, rfl, fun h => (by first | rfl | exact absurd h (by decide)), fun h => (by first | exact ⟨rfl, rfl⟩ | exact absurd h (by decide))⟩
set_option maxRecDepth 100000 in
theorem kf_X4_52 : ks_Fld RX4 52 4 12 (.object "KittenStairs$Yarn") 2 := ⟨RX4, TX4, 14, tyX4, kcl_4, by decide, ks_mg 166 (by decide +kernel) rfl, rfl, fun h => (by first | rfl | exact absurd h (by decide)), fun h => (by first | exact ⟨rfl, rfl⟩ | exact absurd h (by decide))⟩
set_option maxRecDepth 100000 in
theorem kf_X6_92 : ks_Fld RX6 92 4 12 (.object "KittenStairs$Yarn") 0 := ⟨RX4, TX4, 14, tyX4, kcl_4, by decide, ks_mg 167 (by decide +kernel) rfl, rfl, fun h => (by first | rfl | exact absurd h (by decide)), fun h => (by first | exact ⟨rfl, rfl⟩ | exact absurd h (by decide))⟩
set_option maxRecDepth 100000 in
theorem kf_X4_59 : ks_Fld RX4 59 4 13 (.object "KittenStairs$Plans") 2 := ⟨RX4, TX4, 14, tyX4, kcl_4, by decide, ks_mg 168 (by decide +kernel) rfl, rfl, fun h => (by first | rfl | exact absurd h (by decide)), fun h => (by first | exact ⟨rfl, rfl⟩ | exact absurd h (by decide))⟩
set_option maxRecDepth 100000 in
theorem kf_X6_137 : ks_Fld RX6 137 4 13 (.object "KittenStairs$Plans") 0 := ⟨RX4, TX4, 14, tyX4, kcl_4, by decide, ks_mg 169 (by decide +kernel) rfl, rfl, fun h => (by first | rfl | exact absurd h (by decide)), fun h => (by first | exact ⟨rfl, rfl⟩ | exact absurd h (by decide))⟩
set_option maxRecDepth 100000 in
theorem kf_X0_13 : ks_Fld RX0 13 0 0 (.array (.object "KittenStairs$Stairs")) 2 := ⟨RX0, TX0, 3, tyX0, kcl_0, by decide, ks_mg 207 (by decide +kernel) rfl, rfl, fun h => (by first | rfl | exact absurd h (by decide)), fun h => (by first | exact ⟨rfl, rfl⟩ | exact absurd h (by decide))⟩
set_option maxRecDepth 100000 in
theorem kf_X0_17 : ks_Fld RX0 17 0 1 (.int) 1 := ⟨RX0, TX0, 3, tyX0, kcl_0, by decide, ks_mg 208 (by decide +kernel) rfl, rfl, fun h => (by first | rfl | exact absurd h (by decide)), fun h => (by first | exact ⟨rfl, rfl⟩ | exact absurd h (by decide))⟩
set_option maxRecDepth 100000 in
theorem kf_X0_21 : ks_Fld RX0 21 0 2 (.int) 1 := ⟨RX0, TX0, 3, tyX0, kcl_0, by decide, ks_mg 209 (by decide +kernel) rfl, rfl, fun h => (by first | rfl | exact absurd h (by decide)), fun h => (by first | exact ⟨rfl, rfl⟩ | exact absurd h (by decide))⟩
set_option maxRecDepth 100000 in
theorem kf_X6_184 : ks_Fld RX6 184 0 2 (.int) 1 := ⟨RX0, TX0, 3, tyX0, kcl_0, by decide, ks_mg 210 (by decide +kernel) rfl, rfl, fun h => (by first | rfl | exact absurd h (by decide)), fun h => (by first | exact ⟨rfl, rfl⟩ | exact absurd h (by decide))⟩
set_option maxRecDepth 100000 in
theorem kf_X2_9 : ks_Fld RX2 9 2 0 (.array .int) 2 := ⟨RX2, TX2, 2, tyX2, kcl_2, by decide, ks_mg 224 (by decide +kernel) rfl, rfl, fun h => (by first | rfl | exact absurd h (by decide)), fun h => (by first | exact ⟨rfl, rfl⟩ | exact absurd h (by decide))⟩
set_option maxRecDepth 100000 in
theorem kf_X2_15 : ks_Fld RX2 15 2 1 (.int) 1 := ⟨RX2, TX2, 2, tyX2, kcl_2, by decide, ks_mg 225 (by decide +kernel) rfl, rfl, fun h => (by first | rfl | exact absurd h (by decide)), fun h => (by first | exact ⟨rfl, rfl⟩ | exact absurd h (by decide))⟩
set_option maxRecDepth 100000 in
theorem kf_X1_33 : ks_Fld RX1 33 2 1 (.int) 1 := ⟨RX2, TX2, 2, tyX2, kcl_2, by decide, ks_mg 226 (by decide +kernel) rfl, rfl, fun h => (by first | rfl | exact absurd h (by decide)), fun h => (by first | exact ⟨rfl, rfl⟩ | exact absurd h (by decide))⟩
set_option maxRecDepth 100000 in
theorem kf_X6_181 : ks_Fld RX6 181 2 1 (.int) 1 := ⟨RX2, TX2, 2, tyX2, kcl_2, by decide, ks_mg 227 (by decide +kernel) rfl, rfl, fun h => (by first | rfl | exact absurd h (by decide)), fun h => (by first | exact ⟨rfl, rfl⟩ | exact absurd h (by decide))⟩
set_option maxRecDepth 100000 in
theorem kf_X1_9 : ks_Fld RX1 9 1 0 (.array .int) 2 := ⟨RX1, TX1, 4, tyX1, kcl_1, by decide, ks_mg 239 (by decide +kernel) rfl, rfl, fun h => (by first | rfl | exact absurd h (by decide)), fun h => (by first | exact ⟨rfl, rfl⟩ | exact absurd h (by decide))⟩
set_option maxRecDepth 100000 in
theorem kf_X1_15 : ks_Fld RX1 15 1 1 (.array .int) 2 := ⟨RX1, TX1, 4, tyX1, kcl_1, by decide, ks_mg 240 (by decide +kernel) rfl, rfl, fun h => (by first | rfl | exact absurd h (by decide)), fun h => (by first | exact ⟨rfl, rfl⟩ | exact absurd h (by decide))⟩
set_option maxRecDepth 100000 in
theorem kf_X1_18 : ks_Fld RX1 18 1 2 (.int) 1 := ⟨RX1, TX1, 4, tyX1, kcl_1, by decide, ks_mg 241 (by decide +kernel) rfl, rfl, fun h => (by first | rfl | exact absurd h (by decide)), fun h => (by first | exact ⟨rfl, rfl⟩ | exact absurd h (by decide))⟩
set_option maxRecDepth 100000 in
theorem kf_X6_226 : ks_Fld RX6 226 1 2 (.int) 1 := ⟨RX1, TX1, 4, tyX1, kcl_1, by decide, ks_mg 242 (by decide +kernel) rfl, rfl, fun h => (by first | rfl | exact absurd h (by decide)), fun h => (by first | exact ⟨rfl, rfl⟩ | exact absurd h (by decide))⟩
set_option maxRecDepth 100000 in
theorem kf_X1_22 : ks_Fld RX1 22 1 3 (.int) 1 := ⟨RX1, TX1, 4, tyX1, kcl_1, by decide, ks_mg 243 (by decide +kernel) rfl, rfl, fun h => (by first | rfl | exact absurd h (by decide)), fun h => (by first | exact ⟨rfl, rfl⟩ | exact absurd h (by decide))⟩
set_option maxRecDepth 100000 in
theorem kf_X6_12 : ks_Fld RX6 12 6 0 (.object "KittenStairs$Stairs") 2 := ⟨RX6, TX6, 6, tyX6, kcl_6, by decide, ks_mg 253 (by decide +kernel) rfl, rfl, fun h => (by first | rfl | exact absurd h (by decide)), fun h => (by first | exact ⟨rfl, rfl⟩ | exact absurd h (by decide))⟩
set_option maxRecDepth 100000 in
theorem kf_X6_16 : ks_Fld RX6 16 6 1 (.object "KittenStairs$Stairs") 2 := ⟨RX6, TX6, 6, tyX6, kcl_6, by decide, ks_mg 254 (by decide +kernel) rfl, rfl, fun h => (by first | rfl | exact absurd h (by decide)), fun h => (by first | exact ⟨rfl, rfl⟩ | exact absurd h (by decide))⟩
set_option maxRecDepth 100000 in
theorem kf_X6_22 : ks_Fld RX6 22 6 2 (.object "KittenStairs$History") 2 := ⟨RX6, TX6, 6, tyX6, kcl_6, by decide, ks_mg 255 (by decide +kernel) rfl, rfl, fun h => (by first | rfl | exact absurd h (by decide)), fun h => (by first | exact ⟨rfl, rfl⟩ | exact absurd h (by decide))⟩
set_option maxRecDepth 100000 in
theorem kf_X6_26 : ks_Fld RX6 26 6 3 (.array (.object "KittenStairs$Stairs")) 2 := ⟨RX6, TX6, 6, tyX6, kcl_6, by decide, ks_mg 256 (by decide +kernel) rfl, rfl, fun h => (by first | rfl | exact absurd h (by decide)), fun h => (by first | exact ⟨rfl, rfl⟩ | exact absurd h (by decide))⟩
set_option maxRecDepth 100000 in
theorem kf_X6_33 : ks_Fld RX6 33 6 4 (.object "KittenStairs$Pad") 2 := ⟨RX6, TX6, 6, tyX6, kcl_6, by decide, ks_mg 257 (by decide +kernel) rfl, rfl, fun h => (by first | rfl | exact absurd h (by decide)), fun h => (by first | exact ⟨rfl, rfl⟩ | exact absurd h (by decide))⟩
set_option maxRecDepth 100000 in
theorem kf_X6_40 : ks_Fld RX6 40 6 5 (.object "KittenStairs$Orders") 2 := ⟨RX6, TX6, 6, tyX6, kcl_6, by decide, ks_mg 258 (by decide +kernel) rfl, rfl, fun h => (by first | rfl | exact absurd h (by decide)), fun h => (by first | exact ⟨rfl, rfl⟩ | exact absurd h (by decide))⟩
set_option maxRecDepth 100000 in
theorem kf_X7_7 : ks_Fld RX7 7 7 0 (.array .int) 2 := ⟨RX7, TX7, 10, tyX7, kcl_7, by decide, ks_mg 681 (by decide +kernel) rfl, rfl, fun h => (by first | rfl | exact absurd h (by decide)), fun h => (by first | exact ⟨rfl, rfl⟩ | exact absurd h (by decide))⟩
set_option maxRecDepth 100000 in
theorem kf_X7_20 : ks_Fld RX7 20 7 1 (.int) 1 := ⟨RX7, TX7, 10, tyX7, kcl_7, by decide, ks_mg 682 (by decide +kernel) rfl, rfl, fun h => (by first | rfl | exact absurd h (by decide)), fun h => (by first | exact ⟨rfl, rfl⟩ | exact absurd h (by decide))⟩
set_option maxRecDepth 100000 in
theorem kf_X7_13 : ks_Fld RX7 13 7 2 (.array .boolean) 2 := ⟨RX7, TX7, 10, tyX7, kcl_7, by decide, ks_mg 683 (by decide +kernel) rfl, rfl, fun h => (by first | rfl | exact absurd h (by decide)), fun h => (by first | exact ⟨rfl, rfl⟩ | exact absurd h (by decide))⟩
set_option maxRecDepth 100000 in
theorem kf_X7_17 : ks_Fld RX7 17 7 3 (.array .int) 2 := ⟨RX7, TX7, 10, tyX7, kcl_7, by decide, ks_mg 684 (by decide +kernel) rfl, rfl, fun h => (by first | rfl | exact absurd h (by decide)), fun h => (by first | exact ⟨rfl, rfl⟩ | exact absurd h (by decide))⟩
set_option maxRecDepth 100000 in
theorem kf_X7_193 : ks_Fld RX7 193 7 4 (.int) 1 := ⟨RX7, TX7, 10, tyX7, kcl_7, by decide, ks_mg 685 (by decide +kernel) rfl, rfl, fun h => (by first | rfl | exact absurd h (by decide)), fun h => (by first | exact ⟨rfl, rfl⟩ | exact absurd h (by decide))⟩
set_option maxRecDepth 100000 in
theorem kf_X7_211 : ks_Fld RX7 211 7 5 (.int) 1 := ⟨RX7, TX7, 10, tyX7, kcl_7, by decide, ks_mg 686 (by decide +kernel) rfl, rfl, fun h => (by first | rfl | exact absurd h (by decide)), fun h => (by first | exact ⟨rfl, rfl⟩ | exact absurd h (by decide))⟩
set_option maxRecDepth 100000 in
theorem kf_X7_235 : ks_Fld RX7 235 7 6 (.char) 1 := ⟨RX7, TX7, 10, tyX7, kcl_7, by decide, ks_mg 687 (by decide +kernel) rfl, rfl, fun h => (by first | rfl | exact absurd h (by decide)), fun h => (by first | exact ⟨rfl, rfl⟩ | exact absurd h (by decide))⟩
set_option maxRecDepth 100000 in
theorem kf_X7_232 : ks_Fld RX7 232 7 7 (.int) 1 := ⟨RX7, TX7, 10, tyX7, kcl_7, by decide, ks_mg 688 (by decide +kernel) rfl, rfl, fun h => (by first | rfl | exact absurd h (by decide)), fun h => (by first | exact ⟨rfl, rfl⟩ | exact absurd h (by decide))⟩
set_option maxRecDepth 100000 in
theorem kf_X7_229 : ks_Fld RX7 229 7 8 (.int) 1 := ⟨RX7, TX7, 10, tyX7, kcl_7, by decide, ks_mg 689 (by decide +kernel) rfl, rfl, fun h => (by first | rfl | exact absurd h (by decide)), fun h => (by first | exact ⟨rfl, rfl⟩ | exact absurd h (by decide))⟩
set_option maxRecDepth 100000 in
theorem kf_X7_226 : ks_Fld RX7 226 7 9 (.int) 1 := ⟨RX7, TX7, 10, tyX7, kcl_7, by decide, ks_mg 690 (by decide +kernel) rfl, rfl, fun h => (by first | rfl | exact absurd h (by decide)), fun h => (by first | exact ⟨rfl, rfl⟩ | exact absurd h (by decide))⟩
set_option maxRecDepth 100000 in
theorem kb_X6_init : ks_CB yX6_init cX6_init 1 none 0 := ⟨ks_mg 69 (by decide +kernel) rfl, ks_mg 83 (by decide +kernel) rfl, ⟨by decide +kernel, by decide +kernel⟩, by decide +kernel, by decide⟩
set_option maxRecDepth 100000 in
theorem kb_X4_init : ks_CB yX4_init cX4_init 1 none 0 := ⟨ks_mg 70 (by decide +kernel) rfl, ks_mg 91 (by decide +kernel) rfl, ⟨by decide +kernel, by decide +kernel⟩, by decide +kernel, by decide⟩
set_option maxRecDepth 100000 in
theorem kb_X5_init : ks_CB yX5_init cX5_init 1 none 0 := ⟨ks_mg 71 (by decide +kernel) rfl, ks_mg 97 (by decide +kernel) rfl, ⟨by decide +kernel, by decide +kernel⟩, by decide +kernel, by decide⟩
set_option maxRecDepth 100000 in
theorem kb_X3_init : ks_CB yX3_init cX3_init 1 none 0 := ⟨ks_mg 72 (by decide +kernel) rfl, ks_mg 115 (by decide +kernel) rfl, ⟨by decide +kernel, by decide +kernel⟩, by decide +kernel, by decide⟩
set_option maxRecDepth 100000 in
theorem kb_X0_init : ks_CB yX0_init cX0_init 1 none 0 := ⟨ks_mg 74 (by decide +kernel) rfl, ks_mg 203 (by decide +kernel) rfl, ⟨by decide +kernel, by decide +kernel⟩, by decide +kernel, by decide⟩
set_option maxRecDepth 100000 in
theorem kb_X2_init : ks_CB yX2_init cX2_init 1 none 0 := ⟨ks_mg 75 (by decide +kernel) rfl, ks_mg 222 (by decide +kernel) rfl, ⟨by decide +kernel, by decide +kernel⟩, by decide +kernel, by decide⟩
set_option maxRecDepth 100000 in
theorem kb_X1_init : ks_CB yX1_init cX1_init 1 none 0 := ⟨ks_mg 76 (by decide +kernel) rfl, ks_mg 237 (by decide +kernel) rfl, ⟨by decide +kernel, by decide +kernel⟩, by decide +kernel, by decide⟩
set_option maxRecDepth 100000 in
theorem kb_X6_set : ks_CB yX6_set cX6_set 3 (some .int) 2 := ⟨ks_mg 69 (by decide +kernel) rfl, ks_mg 275 (by decide +kernel) rfl, ⟨by decide +kernel, by decide +kernel⟩, by decide +kernel, by decide⟩
set_option maxRecDepth 100000 in
theorem kb_X0_draft : ks_CB yX0_draft cX0_draft 2 none 1 := ⟨ks_mg 74 (by decide +kernel) rfl, ks_mg 279 (by decide +kernel) rfl, ⟨by decide +kernel, by decide +kernel⟩, by decide +kernel, by decide⟩
set_option maxRecDepth 100000 in
theorem kb_X6_roomAt : ks_CB yX6_roomAt cX6_roomAt 3 (some (.object "KittenStairs$Stairs")) 2 := ⟨ks_mg 69 (by decide +kernel) rfl, ks_mg 282 (by decide +kernel) rfl, ⟨by decide +kernel, by decide +kernel⟩, by decide +kernel, by decide⟩
set_option maxRecDepth 100000 in
theorem kb_X4_copyFrom : ks_CB yX4_copyFrom cX4_copyFrom 2 none 1 := ⟨ks_mg 70 (by decide +kernel) rfl, ks_mg 286 (by decide +kernel) rfl, ⟨by decide +kernel, by decide +kernel⟩, by decide +kernel, by decide⟩
set_option maxRecDepth 100000 in
theorem kb_X5_copyFrom : ks_CB yX5_copyFrom cX5_copyFrom 2 none 1 := ⟨ks_mg 71 (by decide +kernel) rfl, ks_mg 290 (by decide +kernel) rfl, ⟨by decide +kernel, by decide +kernel⟩, by decide +kernel, by decide⟩
set_option maxRecDepth 100000 in
theorem kb_X3_copyFrom : ks_CB yX3_copyFrom cX3_copyFrom 2 none 1 := ⟨ks_mg 72 (by decide +kernel) rfl, ks_mg 295 (by decide +kernel) rfl, ⟨by decide +kernel, by decide +kernel⟩, by decide +kernel, by decide⟩
set_option maxRecDepth 100000 in
theorem kb_X4_changeSetting : ks_CB yX4_changeSetting cX4_changeSetting 4 (some .int) 2 := ⟨ks_mg 70 (by decide +kernel) rfl, ks_mg 300 (by decide +kernel) rfl, ⟨by decide +kernel, by decide +kernel⟩, by decide +kernel, by decide⟩
set_option maxRecDepth 100000 in
theorem kb_X6_settled : ks_CB yX6_settled cX6_settled 2 (some .int) 1 := ⟨ks_mg 69 (by decide +kernel) rfl, ks_mg 308 (by decide +kernel) rfl, ⟨by decide +kernel, by decide +kernel⟩, by decide +kernel, by decide⟩
set_option maxRecDepth 100000 in
theorem kb_X0_keepDraft : ks_CB yX0_keepDraft cX0_keepDraft 1 none 0 := ⟨ks_mg 74 (by decide +kernel) rfl, ks_mg 312 (by decide +kernel) rfl, ⟨by decide +kernel, by decide +kernel⟩, by decide +kernel, by decide⟩
set_option maxRecDepth 100000 in
theorem kb_X6_kitten : ks_CB yX6_kitten cX6_kitten 2 (some .int) 1 := ⟨ks_mg 69 (by decide +kernel) rfl, ks_mg 316 (by decide +kernel) rfl, ⟨by decide +kernel, by decide +kernel⟩, by decide +kernel, by decide⟩
set_option maxRecDepth 100000 in
theorem kb_X4_addKitten : ks_CB yX4_addKitten cX4_addKitten 3 (some .int) 1 := ⟨ks_mg 70 (by decide +kernel) rfl, ks_mg 320 (by decide +kernel) rfl, ⟨by decide +kernel, by decide +kernel⟩, by decide +kernel, by decide⟩
set_option maxRecDepth 100000 in
theorem kb_X6_leap : ks_CB yX6_leap cX6_leap 3 (some .int) 2 := ⟨ks_mg 69 (by decide +kernel) rfl, ks_mg 324 (by decide +kernel) rfl, ⟨by decide +kernel, by decide +kernel⟩, by decide +kernel, by decide⟩
set_option maxRecDepth 100000 in
theorem kb_X4_tryLeap : ks_CB yX4_tryLeap cX4_tryLeap 3 (some .int) 2 := ⟨ks_mg 70 (by decide +kernel) rfl, ks_mg 328 (by decide +kernel) rfl, ⟨by decide +kernel, by decide +kernel⟩, by decide +kernel, by decide⟩
set_option maxRecDepth 100000 in
theorem kb_X4_hasKitten : ks_CB yX4_hasKitten cX4_hasKitten 2 (some .boolean) 1 := ⟨ks_mg 70 (by decide +kernel) rfl, ks_mg 332 (by decide +kernel) rfl, ⟨by decide +kernel, by decide +kernel⟩, by decide +kernel, by decide⟩
set_option maxRecDepth 100000 in
theorem kb_X6_isLeap : ks_CB yX6_isLeap cX6_isLeap 1 (some .boolean) 1 := ⟨ks_mg 69 (by decide +kernel) rfl, ks_mg 335 (by decide +kernel) rfl, ⟨by decide +kernel, by decide +kernel⟩, by decide +kernel, by decide⟩
set_option maxRecDepth 100000 in
theorem kb_X4_refusal : ks_CB yX4_refusal cX4_refusal 4 (some .int) 2 := ⟨ks_mg 70 (by decide +kernel) rfl, ks_mg 339 (by decide +kernel) rfl, ⟨by decide +kernel, by decide +kernel⟩, by decide +kernel, by decide⟩
set_option maxRecDepth 100000 in
theorem kb_X4_naps : ks_CB yX4_naps cX4_naps 2 (some .boolean) 1 := ⟨ks_mg 70 (by decide +kernel) rfl, ks_mg 343 (by decide +kernel) rfl, ⟨by decide +kernel, by decide +kernel⟩, by decide +kernel, by decide⟩
set_option maxRecDepth 100000 in
theorem kb_X4_cost : ks_CB yX4_cost cX4_cost 1 (some .int) 1 := ⟨ks_mg 70 (by decide +kernel) rfl, ks_mg 346 (by decide +kernel) rfl, ⟨by decide +kernel, by decide +kernel⟩, by decide +kernel, by decide⟩
set_option maxRecDepth 100000 in
theorem kb_X4_isHeldBack : ks_CB yX4_isHeldBack cX4_isHeldBack 6 (some .boolean) 2 := ⟨ks_mg 70 (by decide +kernel) rfl, ks_mg 350 (by decide +kernel) rfl, ⟨by decide +kernel, by decide +kernel⟩, by decide +kernel, by decide⟩
set_option maxRecDepth 100000 in
theorem kb_X5_boundEdgeSet : ks_CB yX5_boundEdgeSet cX5_boundEdgeSet 9 (some .int) 2 := ⟨ks_mg 71 (by decide +kernel) rfl, ks_mg 357 (by decide +kernel) rfl, ⟨by decide +kernel, by decide +kernel⟩, by decide +kernel, by decide⟩
set_option maxRecDepth 100000 in
theorem kb_X4_ballLasts : ks_CB yX4_ballLasts cX4_ballLasts 7 (some .boolean) 2 := ⟨ks_mg 70 (by decide +kernel) rfl, ks_mg 361 (by decide +kernel) rfl, ⟨by decide +kernel, by decide +kernel⟩, by decide +kernel, by decide⟩
set_option maxRecDepth 100000 in
theorem kb_X4_edgeOnWay : ks_CB yX4_edgeOnWay cX4_edgeOnWay 3 (some .int) 3 := ⟨ks_mg 70 (by decide +kernel) rfl, ks_mg 364 (by decide +kernel) rfl, ⟨by decide +kernel, by decide +kernel⟩, by decide +kernel, by decide⟩
set_option maxRecDepth 100000 in
theorem kb_X5_topOwner : ks_CB yX5_topOwner cX5_topOwner 3 (some .int) 1 := ⟨ks_mg 71 (by decide +kernel) rfl, ks_mg 368 (by decide +kernel) rfl, ⟨by decide +kernel, by decide +kernel⟩, by decide +kernel, by decide⟩
set_option maxRecDepth 100000 in
theorem kb_X4_makeLeap : ks_CB yX4_makeLeap cX4_makeLeap 5 none 2 := ⟨ks_mg 70 (by decide +kernel) rfl, ks_mg 372 (by decide +kernel) rfl, ⟨by decide +kernel, by decide +kernel⟩, by decide +kernel, by decide⟩
set_option maxRecDepth 100000 in
theorem kb_X4_comeOver : ks_CB yX4_comeOver cX4_comeOver 3 none 2 := ⟨ks_mg 70 (by decide +kernel) rfl, ks_mg 376 (by decide +kernel) rfl, ⟨by decide +kernel, by decide +kernel⟩, by decide +kernel, by decide⟩
set_option maxRecDepth 100000 in
theorem kb_X5_removeTop : ks_CB yX5_removeTop cX5_removeTop 4 none 1 := ⟨ks_mg 71 (by decide +kernel) rfl, ks_mg 380 (by decide +kernel) rfl, ⟨by decide +kernel, by decide +kernel⟩, by decide +kernel, by decide⟩
set_option maxRecDepth 100000 in
theorem kb_X5_lay : ks_CB yX5_lay cX5_lay 3 none 2 := ⟨ks_mg 71 (by decide +kernel) rfl, ks_mg 384 (by decide +kernel) rfl, ⟨by decide +kernel, by decide +kernel⟩, by decide +kernel, by decide⟩
set_option maxRecDepth 100000 in
theorem kb_X6_nap : ks_CB yX6_nap cX6_nap 2 (some .int) 1 := ⟨ks_mg 69 (by decide +kernel) rfl, ks_mg 388 (by decide +kernel) rfl, ⟨by decide +kernel, by decide +kernel⟩, by decide +kernel, by decide⟩
set_option maxRecDepth 100000 in
theorem kb_X4_beginNap : ks_CB yX4_beginNap cX4_beginNap 2 (some .int) 1 := ⟨ks_mg 70 (by decide +kernel) rfl, ks_mg 392 (by decide +kernel) rfl, ⟨by decide +kernel, by decide +kernel⟩, by decide +kernel, by decide⟩
set_option maxRecDepth 100000 in
theorem kb_X6_snip : ks_CB yX6_snip cX6_snip 3 (some .int) 2 := ⟨ks_mg 69 (by decide +kernel) rfl, ks_mg 396 (by decide +kernel) rfl, ⟨by decide +kernel, by decide +kernel⟩, by decide +kernel, by decide⟩
set_option maxRecDepth 100000 in
theorem kb_X4_snipStrands : ks_CB yX4_snipStrands cX4_snipStrands 4 (some .int) 2 := ⟨ks_mg 70 (by decide +kernel) rfl, ks_mg 400 (by decide +kernel) rfl, ⟨by decide +kernel, by decide +kernel⟩, by decide +kernel, by decide⟩
set_option maxRecDepth 100000 in
theorem kb_X6_isEdge : ks_CB yX6_isEdge cX6_isEdge 1 (some .boolean) 1 := ⟨ks_mg 69 (by decide +kernel) rfl, ks_mg 403 (by decide +kernel) rfl, ⟨by decide +kernel, by decide +kernel⟩, by decide +kernel, by decide⟩
set_option maxRecDepth 100000 in
theorem kb_X5_removeAll : ks_CB yX5_removeAll cX5_removeAll 5 (some .int) 2 := ⟨ks_mg 71 (by decide +kernel) rfl, ks_mg 407 (by decide +kernel) rfl, ⟨by decide +kernel, by decide +kernel⟩, by decide +kernel, by decide⟩
set_option maxRecDepth 100000 in
theorem kb_X6_plan : ks_CB yX6_plan cX6_plan 4 (some .int) 3 := ⟨ks_mg 69 (by decide +kernel) rfl, ks_mg 411 (by decide +kernel) rfl, ⟨by decide +kernel, by decide +kernel⟩, by decide +kernel, by decide⟩
set_option maxRecDepth 100000 in
theorem kb_X4_planLeap : ks_CB yX4_planLeap cX4_planLeap 4 (some .int) 3 := ⟨ks_mg 70 (by decide +kernel) rfl, ks_mg 415 (by decide +kernel) rfl, ⟨by decide +kernel, by decide +kernel⟩, by decide +kernel, by decide⟩
set_option maxRecDepth 100000 in
theorem kb_X3_insert : ks_CB yX3_insert cX3_insert 5 none 3 := ⟨ks_mg 72 (by decide +kernel) rfl, ks_mg 419 (by decide +kernel) rfl, ⟨by decide +kernel, by decide +kernel⟩, by decide +kernel, by decide⟩
set_option maxRecDepth 100000 in
theorem kb_X3_isLater : ks_CB yX3_isLater cX3_isLater 4 (some .boolean) 3 := ⟨ks_mg 72 (by decide +kernel) rfl, ks_mg 423 (by decide +kernel) rfl, ⟨by decide +kernel, by decide +kernel⟩, by decide +kernel, by decide⟩
set_option maxRecDepth 100000 in
theorem kb_X3_move : ks_CB yX3_move cX3_move 3 none 2 := ⟨ks_mg 72 (by decide +kernel) rfl, ks_mg 427 (by decide +kernel) rfl, ⟨by decide +kernel, by decide +kernel⟩, by decide +kernel, by decide⟩
set_option maxRecDepth 100000 in
theorem kb_X6_pass : ks_CB yX6_pass cX6_pass 2 (some .int) 1 := ⟨ks_mg 69 (by decide +kernel) rfl, ks_mg 431 (by decide +kernel) rfl, ⟨by decide +kernel, by decide +kernel⟩, by decide +kernel, by decide⟩
set_option maxRecDepth 100000 in
theorem kb_X4_passTurns : ks_CB yX4_passTurns cX4_passTurns 4 (some .int) 1 := ⟨ks_mg 70 (by decide +kernel) rfl, ks_mg 435 (by decide +kernel) rfl, ⟨by decide +kernel, by decide +kernel⟩, by decide +kernel, by decide⟩
set_option maxRecDepth 100000 in
theorem kb_X4_passOneTurn : ks_CB yX4_passOneTurn cX4_passOneTurn 5 (some .int) 0 := ⟨ks_mg 70 (by decide +kernel) rfl, ks_mg 439 (by decide +kernel) rfl, ⟨by decide +kernel, by decide +kernel⟩, by decide +kernel, by decide⟩
set_option maxRecDepth 100000 in
theorem kb_X4_wakeKittens : ks_CB yX4_wakeKittens cX4_wakeKittens 2 none 0 := ⟨ks_mg 70 (by decide +kernel) rfl, ks_mg 443 (by decide +kernel) rfl, ⟨by decide +kernel, by decide +kernel⟩, by decide +kernel, by decide⟩
set_option maxRecDepth 100000 in
theorem kb_X3_firstTurn : ks_CB yX3_firstTurn cX3_firstTurn 1 (some .int) 0 := ⟨ks_mg 72 (by decide +kernel) rfl, ks_mg 447 (by decide +kernel) rfl, ⟨by decide +kernel, by decide +kernel⟩, by decide +kernel, by decide⟩
set_option maxRecDepth 100000 in
theorem kb_X3_removeFirst : ks_CB yX3_removeFirst cX3_removeFirst 2 none 0 := ⟨ks_mg 72 (by decide +kernel) rfl, ks_mg 451 (by decide +kernel) rfl, ⟨by decide +kernel, by decide +kernel⟩, by decide +kernel, by decide⟩
set_option maxRecDepth 100000 in
theorem kb_X4_refreshKittens : ks_CB yX4_refreshKittens cX4_refreshKittens 2 none 0 := ⟨ks_mg 70 (by decide +kernel) rfl, ks_mg 455 (by decide +kernel) rfl, ⟨by decide +kernel, by decide +kernel⟩, by decide +kernel, by decide⟩
set_option maxRecDepth 100000 in
theorem kb_X6_of : ks_CB yX6_of cX6_of 3 (some .int) 2 := ⟨ks_mg 69 (by decide +kernel) rfl, ks_mg 459 (by decide +kernel) rfl, ⟨by decide +kernel, by decide +kernel⟩, by decide +kernel, by decide⟩
set_option maxRecDepth 100000 in
theorem kb_X5_lyingOf : ks_CB yX5_lyingOf cX5_lyingOf 4 (some .int) 1 := ⟨ks_mg 71 (by decide +kernel) rfl, ks_mg 464 (by decide +kernel) rfl, ⟨by decide +kernel, by decide +kernel⟩, by decide +kernel, by decide⟩
set_option maxRecDepth 100000 in
theorem kb_X4_boundSet : ks_CB yX4_boundSet cX4_boundSet 4 (some .int) 1 := ⟨ks_mg 70 (by decide +kernel) rfl, ks_mg 468 (by decide +kernel) rfl, ⟨by decide +kernel, by decide +kernel⟩, by decide +kernel, by decide⟩
set_option maxRecDepth 100000 in
theorem kb_X4_reachSet : ks_CB yX4_reachSet cX4_reachSet 5 (some .int) 1 := ⟨ks_mg 70 (by decide +kernel) rfl, ks_mg 472 (by decide +kernel) rfl, ⟨by decide +kernel, by decide +kernel⟩, by decide +kernel, by decide⟩
set_option maxRecDepth 100000 in
theorem kb_X6_ofEdge : ks_CB yX6_ofEdge cX6_ofEdge 3 (some .int) 2 := ⟨ks_mg 69 (by decide +kernel) rfl, ks_mg 476 (by decide +kernel) rfl, ⟨by decide +kernel, by decide +kernel⟩, by decide +kernel, by decide⟩
set_option maxRecDepth 100000 in
theorem kb_X5_lyingAt : ks_CB yX5_lyingAt cX5_lyingAt 4 (some .int) 1 := ⟨ks_mg 71 (by decide +kernel) rfl, ks_mg 481 (by decide +kernel) rfl, ⟨by decide +kernel, by decide +kernel⟩, by decide +kernel, by decide⟩
set_option maxRecDepth 100000 in
theorem kb_X5_ownerSetAt : ks_CB yX5_ownerSetAt cX5_ownerSetAt 4 (some .int) 1 := ⟨ks_mg 71 (by decide +kernel) rfl, ks_mg 486 (by decide +kernel) rfl, ⟨by decide +kernel, by decide +kernel⟩, by decide +kernel, by decide⟩
set_option maxRecDepth 100000 in
theorem kb_X4_boundPairs : ks_CB yX4_boundPairs cX4_boundPairs 5 (some .int) 1 := ⟨ks_mg 70 (by decide +kernel) rfl, ks_mg 490 (by decide +kernel) rfl, ⟨by decide +kernel, by decide +kernel⟩, by decide +kernel, by decide⟩
set_option maxRecDepth 100000 in
theorem kb_X6_strand : ks_CB yX6_strand cX6_strand 3 (some .int) 2 := ⟨ks_mg 69 (by decide +kernel) rfl, ks_mg 494 (by decide +kernel) rfl, ⟨by decide +kernel, by decide +kernel⟩, by decide +kernel, by decide⟩
set_option maxRecDepth 100000 in
theorem kb_X5_ownerAt : ks_CB yX5_ownerAt cX5_ownerAt 5 (some .int) 2 := ⟨ks_mg 71 (by decide +kernel) rfl, ks_mg 498 (by decide +kernel) rfl, ⟨by decide +kernel, by decide +kernel⟩, by decide +kernel, by decide⟩
set_option maxRecDepth 100000 in
theorem kb_X6_bound : ks_CB yX6_bound cX6_bound 3 (some .int) 2 := ⟨ks_mg 69 (by decide +kernel) rfl, ks_mg 502 (by decide +kernel) rfl, ⟨by decide +kernel, by decide +kernel⟩, by decide +kernel, by decide⟩
set_option maxRecDepth 100000 in
theorem kb_X6_planned : ks_CB yX6_planned cX6_planned 3 (some .int) 2 := ⟨ks_mg 69 (by decide +kernel) rfl, ks_mg 507 (by decide +kernel) rfl, ⟨by decide +kernel, by decide +kernel⟩, by decide +kernel, by decide⟩
set_option maxRecDepth 100000 in
theorem kb_X6_count : ks_CB yX6_count cX6_count 2 (some .int) 1 := ⟨ks_mg 69 (by decide +kernel) rfl, ks_mg 511 (by decide +kernel) rfl, ⟨by decide +kernel, by decide +kernel⟩, by decide +kernel, by decide⟩
set_option maxRecDepth 100000 in
theorem kb_X4_nappingSet : ks_CB yX4_nappingSet cX4_nappingSet 3 (some .int) 0 := ⟨ks_mg 70 (by decide +kernel) rfl, ks_mg 515 (by decide +kernel) rfl, ⟨by decide +kernel, by decide +kernel⟩, by decide +kernel, by decide⟩
set_option maxRecDepth 100000 in
theorem kb_X4_sumOfAll : ks_CB yX4_sumOfAll cX4_sumOfAll 4 (some .int) 1 := ⟨ks_mg 70 (by decide +kernel) rfl, ks_mg 519 (by decide +kernel) rfl, ⟨by decide +kernel, by decide +kernel⟩, by decide +kernel, by decide⟩
set_option maxRecDepth 100000 in
theorem kb_X6_why : ks_CB yX6_why cX6_why 3 (some .int) 2 := ⟨ks_mg 69 (by decide +kernel) rfl, ks_mg 523 (by decide +kernel) rfl, ⟨by decide +kernel, by decide +kernel⟩, by decide +kernel, by decide⟩
set_option maxRecDepth 100000 in
theorem kb_X6_ifLeapt : ks_CB yX6_ifLeapt cX6_ifLeapt 4 (some .int) 3 := ⟨ks_mg 69 (by decide +kernel) rfl, ks_mg 529 (by decide +kernel) rfl, ⟨by decide +kernel, by decide +kernel⟩, by decide +kernel, by decide⟩
set_option maxRecDepth 100000 in
theorem kb_X6_frees : ks_CB yX6_frees cX6_frees 5 (some .int) 2 := ⟨ks_mg 69 (by decide +kernel) rfl, ks_mg 535 (by decide +kernel) rfl, ⟨by decide +kernel, by decide +kernel⟩, by decide +kernel, by decide⟩
set_option maxRecDepth 100000 in
theorem kb_X5_fewestGone : ks_CB yX5_fewestGone cX5_fewestGone 6 (some .int) 3 := ⟨ks_mg 71 (by decide +kernel) rfl, ks_mg 539 (by decide +kernel) rfl, ⟨by decide +kernel, by decide +kernel⟩, by decide +kernel, by decide⟩
set_option maxRecDepth 100000 in
theorem kb_X5_mostKept : ks_CB yX5_mostKept cX5_mostKept 7 (some .int) 3 := ⟨ks_mg 71 (by decide +kernel) rfl, ks_mg 543 (by decide +kernel) rfl, ⟨by decide +kernel, by decide +kernel⟩, by decide +kernel, by decide⟩
set_option maxRecDepth 100000 in
theorem kb_X6_quietIn : ks_CB yX6_quietIn cX6_quietIn 2 (some .int) 0 := ⟨ks_mg 69 (by decide +kernel) rfl, ks_mg 550 (by decide +kernel) rfl, ⟨by decide +kernel, by decide +kernel⟩, by decide +kernel, by decide⟩
set_option maxRecDepth 100000 in
theorem kb_X4_lastWaking : ks_CB yX4_lastWaking cX4_lastWaking 3 (some .int) 0 := ⟨ks_mg 70 (by decide +kernel) rfl, ks_mg 554 (by decide +kernel) rfl, ⟨by decide +kernel, by decide +kernel⟩, by decide +kernel, by decide⟩
set_option maxRecDepth 100000 in
theorem kb_X3_lastTurn : ks_CB yX3_lastTurn cX3_lastTurn 1 (some .int) 0 := ⟨ks_mg 72 (by decide +kernel) rfl, ks_mg 559 (by decide +kernel) rfl, ⟨by decide +kernel, by decide +kernel⟩, by decide +kernel, by decide⟩
set_option maxRecDepth 100000 in
theorem kb_X6_stepIn : ks_CB yX6_stepIn cX6_stepIn 4 (some .int) 2 := ⟨ks_mg 69 (by decide +kernel) rfl, ks_mg 564 (by decide +kernel) rfl, ⟨by decide +kernel, by decide +kernel⟩, by decide +kernel, by decide⟩
set_option maxRecDepth 100000 in
theorem kb_X6_thickest : ks_CB yX6_thickest cX6_thickest 5 (some .int) 0 := ⟨ks_mg 69 (by decide +kernel) rfl, ks_mg 569 (by decide +kernel) rfl, ⟨by decide +kernel, by decide +kernel⟩, by decide +kernel, by decide⟩
set_option maxRecDepth 100000 in
theorem kb_X6_put : ks_CB yX6_put cX6_put 3 (some .int) 1 := ⟨ks_mg 69 (by decide +kernel) rfl, ks_mg 573 (by decide +kernel) rfl, ⟨by decide +kernel, by decide +kernel⟩, by decide +kernel, by decide⟩
set_option maxRecDepth 100000 in
theorem kb_X2_append : ks_CB yX2_append cX2_append 5 (some .int) 1 := ⟨ks_mg 75 (by decide +kernel) rfl, ks_mg 577 (by decide +kernel) rfl, ⟨by decide +kernel, by decide +kernel⟩, by decide +kernel, by decide⟩
set_option maxRecDepth 100000 in
theorem kb_X2_signsIn : ks_CB yX2_signsIn cX2_signsIn 7 (some .int) 1 := ⟨ks_mg 75 (by decide +kernel) rfl, ks_mg 580 (by decide +kernel) rfl, ⟨by decide +kernel, by decide +kernel⟩, by decide +kernel, by decide⟩
set_option maxRecDepth 100000 in
theorem kb_X6_wipe : ks_CB yX6_wipe cX6_wipe 1 (some .int) 0 := ⟨ks_mg 69 (by decide +kernel) rfl, ks_mg 587 (by decide +kernel) rfl, ⟨by decide +kernel, by decide +kernel⟩, by decide +kernel, by decide⟩
set_option maxRecDepth 100000 in
theorem kb_X2_empty : ks_CB yX2_empty cX2_empty 2 (some .int) 0 := ⟨ks_mg 75 (by decide +kernel) rfl, ks_mg 591 (by decide +kernel) rfl, ⟨by decide +kernel, by decide +kernel⟩, by decide +kernel, by decide⟩
set_option maxRecDepth 100000 in
theorem kb_X6_fault : ks_CB yX6_fault cX6_fault 1 (some .int) 0 := ⟨ks_mg 69 (by decide +kernel) rfl, ks_mg 595 (by decide +kernel) rfl, ⟨by decide +kernel, by decide +kernel⟩, by decide +kernel, by decide⟩
set_option maxRecDepth 100000 in
theorem kb_X1_read : ks_CB yX1_read cX1_read 2 (some .int) 1 := ⟨ks_mg 76 (by decide +kernel) rfl, ks_mg 599 (by decide +kernel) rfl, ⟨by decide +kernel, by decide +kernel⟩, by decide +kernel, by decide⟩
set_option maxRecDepth 100000 in
theorem kb_X1_readOrder : ks_CB yX1_readOrder cX1_readOrder 3 (some .boolean) 1 := ⟨ks_mg 76 (by decide +kernel) rfl, ks_mg 603 (by decide +kernel) rfl, ⟨by decide +kernel, by decide +kernel⟩, by decide +kernel, by decide⟩
set_option maxRecDepth 100000 in
theorem kb_X2_signAt : ks_CB yX2_signAt cX2_signAt 2 (some .int) 1 := ⟨ks_mg 75 (by decide +kernel) rfl, ks_mg 607 (by decide +kernel) rfl, ⟨by decide +kernel, by decide +kernel⟩, by decide +kernel, by decide⟩
set_option maxRecDepth 100000 in
theorem kb_X1_isLetter : ks_CB yX1_isLetter cX1_isLetter 1 (some .boolean) 1 := ⟨ks_mg 76 (by decide +kernel) rfl, ks_mg 610 (by decide +kernel) rfl, ⟨by decide +kernel, by decide +kernel⟩, by decide +kernel, by decide⟩
set_option maxRecDepth 100000 in
theorem kb_X1_readDigit : ks_CB yX1_readDigit cX1_readDigit 4 (some .boolean) 2 := ⟨ks_mg 76 (by decide +kernel) rfl, ks_mg 614 (by decide +kernel) rfl, ⟨by decide +kernel, by decide +kernel⟩, by decide +kernel, by decide⟩
set_option maxRecDepth 100000 in
theorem kb_X1_digit : ks_CB yX1_digit cX1_digit 3 (some .int) 1 := ⟨ks_mg 76 (by decide +kernel) rfl, ks_mg 618 (by decide +kernel) rfl, ⟨by decide +kernel, by decide +kernel⟩, by decide +kernel, by decide⟩
set_option maxRecDepth 100000 in
theorem kb_X1_keep : ks_CB yX1_keep cX1_keep 3 (some .boolean) 2 := ⟨ks_mg 76 (by decide +kernel) rfl, ks_mg 622 (by decide +kernel) rfl, ⟨by decide +kernel, by decide +kernel⟩, by decide +kernel, by decide⟩
set_option maxRecDepth 100000 in
theorem kb_X1_hasPart : ks_CB yX1_hasPart cX1_hasPart 2 (some .boolean) 2 := ⟨ks_mg 76 (by decide +kernel) rfl, ks_mg 625 (by decide +kernel) rfl, ⟨by decide +kernel, by decide +kernel⟩, by decide +kernel, by decide⟩
set_option maxRecDepth 100000 in
theorem kb_X1_readBy : ks_CB yX1_readBy cX1_readBy 5 (some .boolean) 2 := ⟨ks_mg 76 (by decide +kernel) rfl, ks_mg 629 (by decide +kernel) rfl, ⟨by decide +kernel, by decide +kernel⟩, by decide +kernel, by decide⟩
set_option maxRecDepth 100000 in
theorem kb_X1_readSign : ks_CB yX1_readSign cX1_readSign 3 (some .boolean) 2 := ⟨ks_mg 76 (by decide +kernel) rfl, ks_mg 633 (by decide +kernel) rfl, ⟨by decide +kernel, by decide +kernel⟩, by decide +kernel, by decide⟩
set_option maxRecDepth 100000 in
theorem kb_X1_number : ks_CB yX1_number cX1_number 4 (some .int) 1 := ⟨ks_mg 76 (by decide +kernel) rfl, ks_mg 637 (by decide +kernel) rfl, ⟨by decide +kernel, by decide +kernel⟩, by decide +kernel, by decide⟩
set_option maxRecDepth 100000 in
theorem kb_X1_readNumber : ks_CB yX1_readNumber cX1_readNumber 4 (some .boolean) 2 := ⟨ks_mg 76 (by decide +kernel) rfl, ks_mg 641 (by decide +kernel) rfl, ⟨by decide +kernel, by decide +kernel⟩, by decide +kernel, by decide⟩
set_option maxRecDepth 100000 in
theorem kb_X6_carryOut : ks_CB yX6_carryOut cX6_carryOut 2 (some .int) 0 := ⟨ks_mg 69 (by decide +kernel) rfl, ks_mg 645 (by decide +kernel) rfl, ⟨by decide +kernel, by decide +kernel⟩, by decide +kernel, by decide⟩
set_option maxRecDepth 100000 in
theorem kb_X6_carryOneOut : ks_CB yX6_carryOneOut cX6_carryOneOut 5 (some .int) 1 := ⟨ks_mg 69 (by decide +kernel) rfl, ks_mg 649 (by decide +kernel) rfl, ⟨by decide +kernel, by decide +kernel⟩, by decide +kernel, by decide⟩
set_option maxRecDepth 100000 in
theorem kb_X1_part : ks_CB yX1_part cX1_part 3 (some .int) 2 := ⟨ks_mg 76 (by decide +kernel) rfl, ks_mg 653 (by decide +kernel) rfl, ⟨by decide +kernel, by decide +kernel⟩, by decide +kernel, by decide⟩
set_option maxRecDepth 100000 in
theorem kb_X1_letter : ks_CB yX1_letter cX1_letter 2 (some .int) 1 := ⟨ks_mg 76 (by decide +kernel) rfl, ks_mg 657 (by decide +kernel) rfl, ⟨by decide +kernel, by decide +kernel⟩, by decide +kernel, by decide⟩
set_option maxRecDepth 100000 in
theorem kb_X6_undo : ks_CB yX6_undo cX6_undo 1 (some .int) 0 := ⟨ks_mg 69 (by decide +kernel) rfl, ks_mg 661 (by decide +kernel) rfl, ⟨by decide +kernel, by decide +kernel⟩, by decide +kernel, by decide⟩
set_option maxRecDepth 100000 in
theorem kb_X0_takeBack : ks_CB yX0_takeBack cX0_takeBack 2 none 1 := ⟨ks_mg 74 (by decide +kernel) rfl, ks_mg 665 (by decide +kernel) rfl, ⟨by decide +kernel, by decide +kernel⟩, by decide +kernel, by decide⟩
set_option maxRecDepth 100000 in
theorem kb_X6_save : ks_CB yX6_save cX6_save 2 (some .int) 1 := ⟨ks_mg 69 (by decide +kernel) rfl, ks_mg 669 (by decide +kernel) rfl, ⟨by decide +kernel, by decide +kernel⟩, by decide +kernel, by decide⟩
set_option maxRecDepth 100000 in
theorem kb_X6_restore : ks_CB yX6_restore cX6_restore 3 (some .int) 1 := ⟨ks_mg 69 (by decide +kernel) rfl, ks_mg 674 (by decide +kernel) rfl, ⟨by decide +kernel, by decide +kernel⟩, by decide +kernel, by decide⟩
set_option maxRecDepth 100000 in
theorem kb_X7_init : ks_CB yX7_init cX7_init 1 none 0 := ⟨ks_mg 77 (by decide +kernel) rfl, ks_mg 679 (by decide +kernel) rfl, ⟨by decide +kernel, by decide +kernel⟩, by decide +kernel, by decide⟩
set_option maxRecDepth 100000 in
theorem kb_X7_set : ks_CB yX7_set cX7_set 4 (some .int) 2 := ⟨ks_mg 77 (by decide +kernel) rfl, ks_mg 716 (by decide +kernel) rfl, ⟨by decide +kernel, by decide +kernel⟩, by decide +kernel, by decide⟩
set_option maxRecDepth 100000 in
theorem kb_X7_isValue : ks_CB yX7_isValue cX7_isValue 2 (some .boolean) 2 := ⟨ks_mg 77 (by decide +kernel) rfl, ks_mg 719 (by decide +kernel) rfl, ⟨by decide +kernel, by decide +kernel⟩, by decide +kernel, by decide⟩
set_option maxRecDepth 100000 in
theorem kb_X7_in : ks_CB yX7_in cX7_in 6 (some .boolean) 3 := ⟨ks_mg 77 (by decide +kernel) rfl, ks_mg 723 (by decide +kernel) rfl, ⟨by decide +kernel, by decide +kernel⟩, by decide +kernel, by decide⟩
set_option maxRecDepth 100000 in
theorem kb_X7_changes : ks_CB yX7_changes cX7_changes 2 none 0 := ⟨ks_mg 77 (by decide +kernel) rfl, ks_mg 731 (by decide +kernel) rfl, ⟨by decide +kernel, by decide +kernel⟩, by decide +kernel, by decide⟩
set_option maxRecDepth 100000 in
theorem kb_X7_copies : ks_CB yX7_copies cX7_copies 4 none 2 := ⟨ks_mg 77 (by decide +kernel) rfl, ks_mg 735 (by decide +kernel) rfl, ⟨by decide +kernel, by decide +kernel⟩, by decide +kernel, by decide⟩
set_option maxRecDepth 100000 in
theorem kb_X7_kitten : ks_CB yX7_kitten cX7_kitten 3 (some .int) 1 := ⟨ks_mg 77 (by decide +kernel) rfl, ks_mg 739 (by decide +kernel) rfl, ⟨by decide +kernel, by decide +kernel⟩, by decide +kernel, by decide⟩
set_option maxRecDepth 100000 in
theorem kb_X7_kittenError : ks_CB yX7_kittenError cX7_kittenError 2 (some .int) 1 := ⟨ks_mg 77 (by decide +kernel) rfl, ks_mg 743 (by decide +kernel) rfl, ⟨by decide +kernel, by decide +kernel⟩, by decide +kernel, by decide⟩
set_option maxRecDepth 100000 in
theorem kb_X7_comes : ks_CB yX7_comes cX7_comes 4 (some .int) 1 := ⟨ks_mg 77 (by decide +kernel) rfl, ks_mg 747 (by decide +kernel) rfl, ⟨by decide +kernel, by decide +kernel⟩, by decide +kernel, by decide⟩
set_option maxRecDepth 100000 in
theorem kb_X7_kittenAt : ks_CB yX7_kittenAt cX7_kittenAt 2 (some .int) 2 := ⟨ks_mg 77 (by decide +kernel) rfl, ks_mg 750 (by decide +kernel) rfl, ⟨by decide +kernel, by decide +kernel⟩, by decide +kernel, by decide⟩
set_option maxRecDepth 100000 in
theorem kb_X7_leap : ks_CB yX7_leap cX7_leap 4 (some .int) 2 := ⟨ks_mg 77 (by decide +kernel) rfl, ks_mg 754 (by decide +kernel) rfl, ⟨by decide +kernel, by decide +kernel⟩, by decide +kernel, by decide⟩
set_option maxRecDepth 100000 in
theorem kb_X7_leapError : ks_CB yX7_leapError cX7_leapError 3 (some .int) 2 := ⟨ks_mg 77 (by decide +kernel) rfl, ks_mg 758 (by decide +kernel) rfl, ⟨by decide +kernel, by decide +kernel⟩, by decide +kernel, by decide⟩
set_option maxRecDepth 100000 in
theorem kb_X7_isKitten : ks_CB yX7_isKitten cX7_isKitten 2 (some .boolean) 1 := ⟨ks_mg 77 (by decide +kernel) rfl, ks_mg 762 (by decide +kernel) rfl, ⟨by decide +kernel, by decide +kernel⟩, by decide +kernel, by decide⟩
set_option maxRecDepth 100000 in
theorem kb_X7_areSteps : ks_CB yX7_areSteps cX7_areSteps 1 (some .boolean) 1 := ⟨ks_mg 77 (by decide +kernel) rfl, ks_mg 765 (by decide +kernel) rfl, ⟨by decide +kernel, by decide +kernel⟩, by decide +kernel, by decide⟩
set_option maxRecDepth 100000 in
theorem kb_X7_reason : ks_CB yX7_reason cX7_reason 5 (some .int) 3 := ⟨ks_mg 77 (by decide +kernel) rfl, ks_mg 770 (by decide +kernel) rfl, ⟨by decide +kernel, by decide +kernel⟩, by decide +kernel, by decide⟩
set_option maxRecDepth 100000 in
theorem kb_X7_naps : ks_CB yX7_naps cX7_naps 3 (some .boolean) 2 := ⟨ks_mg 77 (by decide +kernel) rfl, ks_mg 774 (by decide +kernel) rfl, ⟨by decide +kernel, by decide +kernel⟩, by decide +kernel, by decide⟩
set_option maxRecDepth 100000 in
theorem kb_X7_cost : ks_CB yX7_cost cX7_cost 1 (some .int) 1 := ⟨ks_mg 77 (by decide +kernel) rfl, ks_mg 777 (by decide +kernel) rfl, ⟨by decide +kernel, by decide +kernel⟩, by decide +kernel, by decide⟩
set_option maxRecDepth 100000 in
theorem kb_X7_isHeldBack : ks_CB yX7_isHeldBack cX7_isHeldBack 10 (some .boolean) 3 := ⟨ks_mg 77 (by decide +kernel) rfl, ks_mg 781 (by decide +kernel) rfl, ⟨by decide +kernel, by decide +kernel⟩, by decide +kernel, by decide⟩
set_option maxRecDepth 100000 in
theorem kb_X7_boundTo : ks_CB yX7_boundTo cX7_boundTo 5 (some .int) 2 := ⟨ks_mg 77 (by decide +kernel) rfl, ks_mg 785 (by decide +kernel) rfl, ⟨by decide +kernel, by decide +kernel⟩, by decide +kernel, by decide⟩
set_option maxRecDepth 100000 in
theorem kb_X7_boundEdges : ks_CB yX7_boundEdges cX7_boundEdges 6 (some .int) 3 := ⟨ks_mg 77 (by decide +kernel) rfl, ks_mg 789 (by decide +kernel) rfl, ⟨by decide +kernel, by decide +kernel⟩, by decide +kernel, by decide⟩
set_option maxRecDepth 100000 in
theorem kb_X7_areBoundAt : ks_CB yX7_areBoundAt cX7_areBoundAt 9 (some .boolean) 4 := ⟨ks_mg 77 (by decide +kernel) rfl, ks_mg 793 (by decide +kernel) rfl, ⟨by decide +kernel, by decide +kernel⟩, by decide +kernel, by decide⟩
set_option maxRecDepth 100000 in
theorem kb_X7_ownerAt : ks_CB yX7_ownerAt cX7_ownerAt 5 (some .int) 3 := ⟨ks_mg 77 (by decide +kernel) rfl, ks_mg 797 (by decide +kernel) rfl, ⟨by decide +kernel, by decide +kernel⟩, by decide +kernel, by decide⟩
set_option maxRecDepth 100000 in
theorem kb_X7_size : ks_CB yX7_size cX7_size 1 (some .int) 1 := ⟨ks_mg 77 (by decide +kernel) rfl, ks_mg 800 (by decide +kernel) rfl, ⟨by decide +kernel, by decide +kernel⟩, by decide +kernel, by decide⟩
set_option maxRecDepth 100000 in
theorem kb_X7_isTooShort : ks_CB yX7_isTooShort cX7_isTooShort 7 (some .boolean) 3 := ⟨ks_mg 77 (by decide +kernel) rfl, ks_mg 804 (by decide +kernel) rfl, ⟨by decide +kernel, by decide +kernel⟩, by decide +kernel, by decide⟩
set_option maxRecDepth 100000 in
theorem kb_X7_edgeOf : ks_CB yX7_edgeOf cX7_edgeOf 6 (some .int) 4 := ⟨ks_mg 77 (by decide +kernel) rfl, ks_mg 808 (by decide +kernel) rfl, ⟨by decide +kernel, by decide +kernel⟩, by decide +kernel, by decide⟩
set_option maxRecDepth 100000 in
theorem kb_X7_windsBack : ks_CB yX7_windsBack cX7_windsBack 5 (some .boolean) 3 := ⟨ks_mg 77 (by decide +kernel) rfl, ks_mg 812 (by decide +kernel) rfl, ⟨by decide +kernel, by decide +kernel⟩, by decide +kernel, by decide⟩
set_option maxRecDepth 100000 in
theorem kb_X7_top : ks_CB yX7_top cX7_top 5 (some .int) 2 := ⟨ks_mg 77 (by decide +kernel) rfl, ks_mg 816 (by decide +kernel) rfl, ⟨by decide +kernel, by decide +kernel⟩, by decide +kernel, by decide⟩
set_option maxRecDepth 100000 in
theorem kb_X7_leaps : ks_CB yX7_leaps cX7_leaps 7 (some .int) 3 := ⟨ks_mg 77 (by decide +kernel) rfl, ks_mg 820 (by decide +kernel) rfl, ⟨by decide +kernel, by decide +kernel⟩, by decide +kernel, by decide⟩
set_option maxRecDepth 100000 in
theorem kb_X7_crosses : ks_CB yX7_crosses cX7_crosses 5 none 3 := ⟨ks_mg 77 (by decide +kernel) rfl, ks_mg 824 (by decide +kernel) rfl, ⟨by decide +kernel, by decide +kernel⟩, by decide +kernel, by decide⟩
set_option maxRecDepth 100000 in
theorem kb_X7_removesStrand : ks_CB yX7_removesStrand cX7_removesStrand 4 none 2 := ⟨ks_mg 77 (by decide +kernel) rfl, ks_mg 828 (by decide +kernel) rfl, ⟨by decide +kernel, by decide +kernel⟩, by decide +kernel, by decide⟩
set_option maxRecDepth 100000 in
theorem kb_X7_nap : ks_CB yX7_nap cX7_nap 3 (some .int) 1 := ⟨ks_mg 77 (by decide +kernel) rfl, ks_mg 832 (by decide +kernel) rfl, ⟨by decide +kernel, by decide +kernel⟩, by decide +kernel, by decide⟩
set_option maxRecDepth 100000 in
theorem kb_X7_napError : ks_CB yX7_napError cX7_napError 2 (some .int) 1 := ⟨ks_mg 77 (by decide +kernel) rfl, ks_mg 836 (by decide +kernel) rfl, ⟨by decide +kernel, by decide +kernel⟩, by decide +kernel, by decide⟩
set_option maxRecDepth 100000 in
theorem kb_X7_sleeps : ks_CB yX7_sleeps cX7_sleeps 2 (some .int) 1 := ⟨ks_mg 77 (by decide +kernel) rfl, ks_mg 840 (by decide +kernel) rfl, ⟨by decide +kernel, by decide +kernel⟩, by decide +kernel, by decide⟩
set_option maxRecDepth 100000 in
theorem kb_X7_snip : ks_CB yX7_snip cX7_snip 4 (some .int) 2 := ⟨ks_mg 77 (by decide +kernel) rfl, ks_mg 844 (by decide +kernel) rfl, ⟨by decide +kernel, by decide +kernel⟩, by decide +kernel, by decide⟩
set_option maxRecDepth 100000 in
theorem kb_X7_snipError : ks_CB yX7_snipError cX7_snipError 3 (some .int) 2 := ⟨ks_mg 77 (by decide +kernel) rfl, ks_mg 848 (by decide +kernel) rfl, ⟨by decide +kernel, by decide +kernel⟩, by decide +kernel, by decide⟩
set_option maxRecDepth 100000 in
theorem kb_X7_isEdge : ks_CB yX7_isEdge cX7_isEdge 1 (some .boolean) 1 := ⟨ks_mg 77 (by decide +kernel) rfl, ks_mg 851 (by decide +kernel) rfl, ⟨by decide +kernel, by decide +kernel⟩, by decide +kernel, by decide⟩
set_option maxRecDepth 100000 in
theorem kb_X7_strandsAt : ks_CB yX7_strandsAt cX7_strandsAt 5 (some .int) 2 := ⟨ks_mg 77 (by decide +kernel) rfl, ks_mg 856 (by decide +kernel) rfl, ⟨by decide +kernel, by decide +kernel⟩, by decide +kernel, by decide⟩
set_option maxRecDepth 100000 in
theorem kb_X7_snips : ks_CB yX7_snips cX7_snips 5 (some .int) 2 := ⟨ks_mg 77 (by decide +kernel) rfl, ks_mg 860 (by decide +kernel) rfl, ⟨by decide +kernel, by decide +kernel⟩, by decide +kernel, by decide⟩
set_option maxRecDepth 100000 in
theorem kb_X7_plan : ks_CB yX7_plan cX7_plan 5 (some .int) 3 := ⟨ks_mg 77 (by decide +kernel) rfl, ks_mg 864 (by decide +kernel) rfl, ⟨by decide +kernel, by decide +kernel⟩, by decide +kernel, by decide⟩
set_option maxRecDepth 100000 in
theorem kb_X7_planError : ks_CB yX7_planError cX7_planError 4 (some .int) 3 := ⟨ks_mg 77 (by decide +kernel) rfl, ks_mg 868 (by decide +kernel) rfl, ⟨by decide +kernel, by decide +kernel⟩, by decide +kernel, by decide⟩
set_option maxRecDepth 100000 in
theorem kb_X7_plans : ks_CB yX7_plans cX7_plans 7 (some .int) 3 := ⟨ks_mg 77 (by decide +kernel) rfl, ks_mg 873 (by decide +kernel) rfl, ⟨by decide +kernel, by decide +kernel⟩, by decide +kernel, by decide⟩
set_option maxRecDepth 100000 in
theorem kb_X7_planAt : ks_CB yX7_planAt cX7_planAt 2 (some .int) 2 := ⟨ks_mg 77 (by decide +kernel) rfl, ks_mg 876 (by decide +kernel) rfl, ⟨by decide +kernel, by decide +kernel⟩, by decide +kernel, by decide⟩
set_option maxRecDepth 100000 in
theorem kb_X7_pass : ks_CB yX7_pass cX7_pass 3 (some .int) 1 := ⟨ks_mg 77 (by decide +kernel) rfl, ks_mg 880 (by decide +kernel) rfl, ⟨by decide +kernel, by decide +kernel⟩, by decide +kernel, by decide⟩
set_option maxRecDepth 100000 in
theorem kb_X7_passError : ks_CB yX7_passError cX7_passError 2 (some .int) 1 := ⟨ks_mg 77 (by decide +kernel) rfl, ks_mg 884 (by decide +kernel) rfl, ⟨by decide +kernel, by decide +kernel⟩, by decide +kernel, by decide⟩
set_option maxRecDepth 100000 in
theorem kb_X7_turns : ks_CB yX7_turns cX7_turns 5 (some .int) 2 := ⟨ks_mg 77 (by decide +kernel) rfl, ks_mg 888 (by decide +kernel) rfl, ⟨by decide +kernel, by decide +kernel⟩, by decide +kernel, by decide⟩
set_option maxRecDepth 100000 in
theorem kb_X7_turn : ks_CB yX7_turn cX7_turn 8 (some .int) 1 := ⟨ks_mg 77 (by decide +kernel) rfl, ks_mg 892 (by decide +kernel) rfl, ⟨by decide +kernel, by decide +kernel⟩, by decide +kernel, by decide⟩
set_option maxRecDepth 100000 in
theorem kb_X7_of : ks_CB yX7_of cX7_of 4 (some .int) 2 := ⟨ks_mg 77 (by decide +kernel) rfl, ks_mg 896 (by decide +kernel) rfl, ⟨by decide +kernel, by decide +kernel⟩, by decide +kernel, by decide⟩
set_option maxRecDepth 100000 in
theorem kb_X7_strandsOf : ks_CB yX7_strandsOf cX7_strandsOf 4 (some .int) 1 := ⟨ks_mg 77 (by decide +kernel) rfl, ks_mg 900 (by decide +kernel) rfl, ⟨by decide +kernel, by decide +kernel⟩, by decide +kernel, by decide⟩
set_option maxRecDepth 100000 in
theorem kb_X7_stepsOf : ks_CB yX7_stepsOf cX7_stepsOf 4 (some .int) 1 := ⟨ks_mg 77 (by decide +kernel) rfl, ks_mg 904 (by decide +kernel) rfl, ⟨by decide +kernel, by decide +kernel⟩, by decide +kernel, by decide⟩
set_option maxRecDepth 100000 in
theorem kb_X7_ofEdge : ks_CB yX7_ofEdge cX7_ofEdge 3 (some .int) 2 := ⟨ks_mg 77 (by decide +kernel) rfl, ks_mg 908 (by decide +kernel) rfl, ⟨by decide +kernel, by decide +kernel⟩, by decide +kernel, by decide⟩
set_option maxRecDepth 100000 in
theorem kb_X7_thickness : ks_CB yX7_thickness cX7_thickness 4 (some .int) 1 := ⟨ks_mg 77 (by decide +kernel) rfl, ks_mg 912 (by decide +kernel) rfl, ⟨by decide +kernel, by decide +kernel⟩, by decide +kernel, by decide⟩
set_option maxRecDepth 100000 in
theorem kb_X7_kittensAt : ks_CB yX7_kittensAt cX7_kittensAt 4 (some .int) 1 := ⟨ks_mg 77 (by decide +kernel) rfl, ks_mg 916 (by decide +kernel) rfl, ⟨by decide +kernel, by decide +kernel⟩, by decide +kernel, by decide⟩
set_option maxRecDepth 100000 in
theorem kb_X7_pairsAt : ks_CB yX7_pairsAt cX7_pairsAt 4 (some .int) 1 := ⟨ks_mg 77 (by decide +kernel) rfl, ks_mg 920 (by decide +kernel) rfl, ⟨by decide +kernel, by decide +kernel⟩, by decide +kernel, by decide⟩
set_option maxRecDepth 100000 in
theorem kb_X7_strand : ks_CB yX7_strand cX7_strand 5 (some .int) 2 := ⟨ks_mg 77 (by decide +kernel) rfl, ks_mg 924 (by decide +kernel) rfl, ⟨by decide +kernel, by decide +kernel⟩, by decide +kernel, by decide⟩
set_option maxRecDepth 100000 in
theorem kb_X7_bound : ks_CB yX7_bound cX7_bound 3 (some .int) 2 := ⟨ks_mg 77 (by decide +kernel) rfl, ks_mg 928 (by decide +kernel) rfl, ⟨by decide +kernel, by decide +kernel⟩, by decide +kernel, by decide⟩
set_option maxRecDepth 100000 in
theorem kb_X7_planned : ks_CB yX7_planned cX7_planned 3 (some .int) 2 := ⟨ks_mg 77 (by decide +kernel) rfl, ks_mg 932 (by decide +kernel) rfl, ⟨by decide +kernel, by decide +kernel⟩, by decide +kernel, by decide⟩
set_option maxRecDepth 100000 in
theorem kb_X7_count : ks_CB yX7_count cX7_count 2 (some .int) 1 := ⟨ks_mg 77 (by decide +kernel) rfl, ks_mg 936 (by decide +kernel) rfl, ⟨by decide +kernel, by decide +kernel⟩, by decide +kernel, by decide⟩
set_option maxRecDepth 100000 in
theorem kb_X7_napping : ks_CB yX7_napping cX7_napping 3 (some .int) 0 := ⟨ks_mg 77 (by decide +kernel) rfl, ks_mg 940 (by decide +kernel) rfl, ⟨by decide +kernel, by decide +kernel⟩, by decide +kernel, by decide⟩
set_option maxRecDepth 100000 in
theorem kb_X7_all : ks_CB yX7_all cX7_all 4 (some .int) 1 := ⟨ks_mg 77 (by decide +kernel) rfl, ks_mg 944 (by decide +kernel) rfl, ⟨by decide +kernel, by decide +kernel⟩, by decide +kernel, by decide⟩
set_option maxRecDepth 100000 in
theorem kb_X7_pairs : ks_CB yX7_pairs cX7_pairs 3 (some .int) 0 := ⟨ks_mg 77 (by decide +kernel) rfl, ks_mg 948 (by decide +kernel) rfl, ⟨by decide +kernel, by decide +kernel⟩, by decide +kernel, by decide⟩
set_option maxRecDepth 100000 in
theorem kb_X7_ones : ks_CB yX7_ones cX7_ones 3 (some .int) 1 := ⟨ks_mg 77 (by decide +kernel) rfl, ks_mg 951 (by decide +kernel) rfl, ⟨by decide +kernel, by decide +kernel⟩, by decide +kernel, by decide⟩
set_option maxRecDepth 100000 in
theorem kb_X7_why : ks_CB yX7_why cX7_why 3 (some .int) 2 := ⟨ks_mg 77 (by decide +kernel) rfl, ks_mg 955 (by decide +kernel) rfl, ⟨by decide +kernel, by decide +kernel⟩, by decide +kernel, by decide⟩
set_option maxRecDepth 100000 in
theorem kb_X7_ifLeapt : ks_CB yX7_ifLeapt cX7_ifLeapt 9 (some .int) 3 := ⟨ks_mg 77 (by decide +kernel) rfl, ks_mg 959 (by decide +kernel) rfl, ⟨by decide +kernel, by decide +kernel⟩, by decide +kernel, by decide⟩
set_option maxRecDepth 100000 in
theorem kb_X7_frees : ks_CB yX7_frees cX7_frees 7 (some .int) 2 := ⟨ks_mg 77 (by decide +kernel) rfl, ks_mg 964 (by decide +kernel) rfl, ⟨by decide +kernel, by decide +kernel⟩, by decide +kernel, by decide⟩
set_option maxRecDepth 100000 in
theorem kb_X7_sorting : ks_CB yX7_sorting cX7_sorting 8 (some .int) 3 := ⟨ks_mg 77 (by decide +kernel) rfl, ks_mg 968 (by decide +kernel) rfl, ⟨by decide +kernel, by decide +kernel⟩, by decide +kernel, by decide⟩
set_option maxRecDepth 100000 in
theorem kb_X7_quietIn : ks_CB yX7_quietIn cX7_quietIn 3 (some .int) 0 := ⟨ks_mg 77 (by decide +kernel) rfl, ks_mg 972 (by decide +kernel) rfl, ⟨by decide +kernel, by decide +kernel⟩, by decide +kernel, by decide⟩
set_option maxRecDepth 100000 in
theorem kb_X7_stepIn : ks_CB yX7_stepIn cX7_stepIn 4 (some .int) 2 := ⟨ks_mg 77 (by decide +kernel) rfl, ks_mg 976 (by decide +kernel) rfl, ⟨by decide +kernel, by decide +kernel⟩, by decide +kernel, by decide⟩
set_option maxRecDepth 100000 in
theorem kb_X7_thickest : ks_CB yX7_thickest cX7_thickest 5 (some .int) 0 := ⟨ks_mg 77 (by decide +kernel) rfl, ks_mg 980 (by decide +kernel) rfl, ⟨by decide +kernel, by decide +kernel⟩, by decide +kernel, by decide⟩
set_option maxRecDepth 100000 in
theorem kb_X7_put : ks_CB yX7_put cX7_put 5 (some .int) 1 := ⟨ks_mg 77 (by decide +kernel) rfl, ks_mg 984 (by decide +kernel) rfl, ⟨by decide +kernel, by decide +kernel⟩, by decide +kernel, by decide⟩
set_option maxRecDepth 100000 in
theorem kb_X7_charactersOf : ks_CB yX7_charactersOf cX7_charactersOf 5 (some .int) 1 := ⟨ks_mg 77 (by decide +kernel) rfl, ks_mg 987 (by decide +kernel) rfl, ⟨by decide +kernel, by decide +kernel⟩, by decide +kernel, by decide⟩
set_option maxRecDepth 100000 in
theorem kb_X7_wipe : ks_CB yX7_wipe cX7_wipe 2 (some .int) 0 := ⟨ks_mg 77 (by decide +kernel) rfl, ks_mg 994 (by decide +kernel) rfl, ⟨by decide +kernel, by decide +kernel⟩, by decide +kernel, by decide⟩
set_option maxRecDepth 100000 in
theorem kb_X7_fault : ks_CB yX7_fault cX7_fault 2 (some .int) 0 := ⟨ks_mg 77 (by decide +kernel) rfl, ks_mg 998 (by decide +kernel) rfl, ⟨by decide +kernel, by decide +kernel⟩, by decide +kernel, by decide⟩
set_option maxRecDepth 100000 in
theorem kb_X7_readsOrder : ks_CB yX7_readsOrder cX7_readsOrder 1 (some .boolean) 0 := ⟨ks_mg 77 (by decide +kernel) rfl, ks_mg 1002 (by decide +kernel) rfl, ⟨by decide +kernel, by decide +kernel⟩, by decide +kernel, by decide⟩
set_option maxRecDepth 100000 in
theorem kb_X7_readsNumber : ks_CB yX7_readsNumber cX7_readsNumber 1 (some .boolean) 0 := ⟨ks_mg 77 (by decide +kernel) rfl, ks_mg 1006 (by decide +kernel) rfl, ⟨by decide +kernel, by decide +kernel⟩, by decide +kernel, by decide⟩
set_option maxRecDepth 100000 in
theorem kb_X7_number : ks_CB yX7_number cX7_number 2 (some .int) 0 := ⟨ks_mg 77 (by decide +kernel) rfl, ks_mg 1010 (by decide +kernel) rfl, ⟨by decide +kernel, by decide +kernel⟩, by decide +kernel, by decide⟩
set_option maxRecDepth 100000 in
theorem kb_X7_digit : ks_CB yX7_digit cX7_digit 2 (some .int) 0 := ⟨ks_mg 77 (by decide +kernel) rfl, ks_mg 1014 (by decide +kernel) rfl, ⟨by decide +kernel, by decide +kernel⟩, by decide +kernel, by decide⟩
set_option maxRecDepth 100000 in
theorem kb_X7_isHere : ks_CB yX7_isHere cX7_isHere 3 (some .boolean) 2 := ⟨ks_mg 77 (by decide +kernel) rfl, ks_mg 1018 (by decide +kernel) rfl, ⟨by decide +kernel, by decide +kernel⟩, by decide +kernel, by decide⟩
set_option maxRecDepth 100000 in
theorem kb_X7_readsKitten : ks_CB yX7_readsKitten cX7_readsKitten 1 (some .boolean) 0 := ⟨ks_mg 77 (by decide +kernel) rfl, ks_mg 1022 (by decide +kernel) rfl, ⟨by decide +kernel, by decide +kernel⟩, by decide +kernel, by decide⟩
set_option maxRecDepth 100000 in
theorem kb_X7_readsBy : ks_CB yX7_readsBy cX7_readsBy 3 (some .boolean) 0 := ⟨ks_mg 77 (by decide +kernel) rfl, ks_mg 1026 (by decide +kernel) rfl, ⟨by decide +kernel, by decide +kernel⟩, by decide +kernel, by decide⟩
set_option maxRecDepth 100000 in
theorem kb_X7_takes : ks_CB yX7_takes cX7_takes 3 (some .boolean) 1 := ⟨ks_mg 77 (by decide +kernel) rfl, ks_mg 1030 (by decide +kernel) rfl, ⟨by decide +kernel, by decide +kernel⟩, by decide +kernel, by decide⟩
set_option maxRecDepth 100000 in
theorem kb_X7_carryOut : ks_CB yX7_carryOut cX7_carryOut 5 (some .int) 0 := ⟨ks_mg 77 (by decide +kernel) rfl, ks_mg 1034 (by decide +kernel) rfl, ⟨by decide +kernel, by decide +kernel⟩, by decide +kernel, by decide⟩
set_option maxRecDepth 100000 in
theorem kb_X7_orderError : ks_CB yX7_orderError cX7_orderError 1 (some .int) 0 := ⟨ks_mg 77 (by decide +kernel) rfl, ks_mg 1039 (by decide +kernel) rfl, ⟨by decide +kernel, by decide +kernel⟩, by decide +kernel, by decide⟩
set_option maxRecDepth 100000 in
theorem kb_X7_does : ks_CB yX7_does cX7_does 1 (some .int) 0 := ⟨ks_mg 77 (by decide +kernel) rfl, ks_mg 1043 (by decide +kernel) rfl, ⟨by decide +kernel, by decide +kernel⟩, by decide +kernel, by decide⟩
set_option maxRecDepth 100000 in
theorem kb_X7_undo : ks_CB yX7_undo cX7_undo 1 (some .int) 0 := ⟨ks_mg 77 (by decide +kernel) rfl, ks_mg 1047 (by decide +kernel) rfl, ⟨by decide +kernel, by decide +kernel⟩, by decide +kernel, by decide⟩
set_option maxRecDepth 100000 in
theorem kb_X7_save : ks_CB yX7_save cX7_save 2 (some .int) 1 := ⟨ks_mg 77 (by decide +kernel) rfl, ks_mg 1051 (by decide +kernel) rfl, ⟨by decide +kernel, by decide +kernel⟩, by decide +kernel, by decide⟩
set_option maxRecDepth 100000 in
theorem kb_X7_isSlot : ks_CB yX7_isSlot cX7_isSlot 1 (some .boolean) 1 := ⟨ks_mg 77 (by decide +kernel) rfl, ks_mg 1054 (by decide +kernel) rfl, ⟨by decide +kernel, by decide +kernel⟩, by decide +kernel, by decide⟩
set_option maxRecDepth 100000 in
theorem kb_X7_restore : ks_CB yX7_restore cX7_restore 2 (some .int) 1 := ⟨ks_mg 77 (by decide +kernel) rfl, ks_mg 1058 (by decide +kernel) rfl, ⟨by decide +kernel, by decide +kernel⟩, by decide +kernel, by decide⟩
set_option maxRecDepth 100000 in
theorem kc_L_9 : ks_CI RL 9 yX6_init cX6_init 1 0 := ⟨kb_X6_init, Or.inl (ks_mg 81 (by decide +kernel) rfl), ks_mg 82 (by decide +kernel) rfl, rfl⟩
set_option maxRecDepth 100000 in
theorem kc_X6_11 : ks_CI RX6 11 yX4_init cX4_init 1 0 := ⟨kb_X4_init, Or.inl (ks_mg 89 (by decide +kernel) rfl), ks_mg 90 (by decide +kernel) rfl, rfl⟩
set_option maxRecDepth 100000 in
theorem kc_X4_51 : ks_CI RX4 51 yX5_init cX5_init 1 0 := ⟨kb_X5_init, Or.inr ⟨RX6, by decide +kernel⟩, ks_mg 96 (by decide +kernel) rfl, rfl⟩
set_option maxRecDepth 100000 in
theorem kc_X4_58 : ks_CI RX4 58 yX3_init cX3_init 1 0 := ⟨kb_X3_init, Or.inr ⟨RX6, by decide +kernel⟩, ks_mg 114 (by decide +kernel) rfl, rfl⟩
set_option maxRecDepth 100000 in
theorem kc_X6_21 : ks_CI RX6 21 yX0_init cX0_init 1 0 := ⟨kb_X0_init, Or.inr ⟨RX6, by decide +kernel⟩, ks_mg 202 (by decide +kernel) rfl, rfl⟩
set_option maxRecDepth 100000 in
theorem kc_X6_32 : ks_CI RX6 32 yX2_init cX2_init 1 0 := ⟨kb_X2_init, Or.inr ⟨RX6, by decide +kernel⟩, ks_mg 221 (by decide +kernel) rfl, rfl⟩
set_option maxRecDepth 100000 in
theorem kc_X6_39 : ks_CI RX6 39 yX1_init cX1_init 1 0 := ⟨kb_X1_init, Or.inr ⟨RX6, by decide +kernel⟩, ks_mg 236 (by decide +kernel) rfl, rfl⟩
set_option maxRecDepth 100000 in
theorem kc_L_13 : ks_CV RL 13 yX6_set cX6_set 3 (some .int) 2 := ⟨kb_X6_set, ks_mg 272 (by decide +kernel) rfl, ks_mg 273 (by decide +kernel) rfl, ks_mg 274 (by decide +kernel) rfl⟩
set_option maxRecDepth 100000 in
theorem kc_X6_44 : ks_CV RX6 44 yX0_draft cX0_draft 2 none 1 := ⟨kb_X0_draft, ks_mg 276 (by decide +kernel) rfl, ks_mg 277 (by decide +kernel) rfl, ks_mg 278 (by decide +kernel) rfl⟩
set_option maxRecDepth 100000 in
theorem kc_X0_24 : ks_CS RX0 24 yX6_roomAt cX6_roomAt 3 (some (.object "KittenStairs$Stairs")) 2 := ⟨kb_X6_roomAt, Or.inr ⟨RX6, by decide +kernel⟩, ks_mg 281 (by decide +kernel) rfl⟩
set_option maxRecDepth 100000 in
theorem kc_X0_28 : ks_CV RX0 28 yX4_copyFrom cX4_copyFrom 2 none 1 := ⟨kb_X4_copyFrom, ks_mg 283 (by decide +kernel) rfl, ks_mg 284 (by decide +kernel) rfl, ks_mg 285 (by decide +kernel) rfl⟩
set_option maxRecDepth 100000 in
theorem kc_X4_72 : ks_CV RX4 72 yX5_copyFrom cX5_copyFrom 2 none 1 := ⟨kb_X5_copyFrom, ks_mg 287 (by decide +kernel) rfl, ks_mg 288 (by decide +kernel) rfl, ks_mg 289 (by decide +kernel) rfl⟩
set_option maxRecDepth 100000 in
theorem kc_X4_76 : ks_CV RX4 76 yX3_copyFrom cX3_copyFrom 2 none 1 := ⟨kb_X3_copyFrom, ks_mg 292 (by decide +kernel) rfl, ks_mg 293 (by decide +kernel) rfl, ks_mg 294 (by decide +kernel) rfl⟩
set_option maxRecDepth 100000 in
theorem kc_X6_48 : ks_CV RX6 48 yX4_changeSetting cX4_changeSetting 4 (some .int) 2 := ⟨kb_X4_changeSetting, ks_mg 297 (by decide +kernel) rfl, ks_mg 298 (by decide +kernel) rfl, ks_mg 299 (by decide +kernel) rfl⟩
set_option maxRecDepth 100000 in
theorem kc_X6_52 : ks_CV RX6 52 yX6_settled cX6_settled 2 (some .int) 1 := ⟨kb_X6_settled, ks_mg 305 (by decide +kernel) rfl, ks_mg 307 (by decide +kernel) rfl, ks_mg 0 (by decide +kernel) rfl⟩
set_option maxRecDepth 100000 in
theorem kc_X6_237 : ks_CV RX6 237 yX0_keepDraft cX0_keepDraft 1 none 0 := ⟨kb_X0_keepDraft, ks_mg 309 (by decide +kernel) rfl, ks_mg 310 (by decide +kernel) rfl, ks_mg 311 (by decide +kernel) rfl⟩
set_option maxRecDepth 100000 in
theorem kc_L_18 : ks_CV RL 18 yX6_kitten cX6_kitten 2 (some .int) 1 := ⟨kb_X6_kitten, ks_mg 313 (by decide +kernel) rfl, ks_mg 314 (by decide +kernel) rfl, ks_mg 315 (by decide +kernel) rfl⟩
set_option maxRecDepth 100000 in
theorem kc_X6_56 : ks_CV RX6 56 yX4_addKitten cX4_addKitten 3 (some .int) 1 := ⟨kb_X4_addKitten, ks_mg 317 (by decide +kernel) rfl, ks_mg 318 (by decide +kernel) rfl, ks_mg 319 (by decide +kernel) rfl⟩
set_option maxRecDepth 100000 in
theorem kc_L_23 : ks_CV RL 23 yX6_leap cX6_leap 3 (some .int) 2 := ⟨kb_X6_leap, ks_mg 321 (by decide +kernel) rfl, ks_mg 322 (by decide +kernel) rfl, ks_mg 323 (by decide +kernel) rfl⟩
set_option maxRecDepth 100000 in
theorem kc_X6_59 : ks_CV RX6 59 yX4_tryLeap cX4_tryLeap 3 (some .int) 2 := ⟨kb_X4_tryLeap, ks_mg 325 (by decide +kernel) rfl, ks_mg 326 (by decide +kernel) rfl, ks_mg 327 (by decide +kernel) rfl⟩
set_option maxRecDepth 100000 in
theorem kc_X4_85 : ks_CV RX4 85 yX4_hasKitten cX4_hasKitten 2 (some .boolean) 1 := ⟨kb_X4_hasKitten, ks_mg 329 (by decide +kernel) rfl, ks_mg 330 (by decide +kernel) rfl, ks_mg 331 (by decide +kernel) rfl⟩
set_option maxRecDepth 100000 in
theorem kc_X4_89 : ks_CS RX4 89 yX6_isLeap cX6_isLeap 1 (some .boolean) 1 := ⟨kb_X6_isLeap, Or.inr ⟨RX6, by decide +kernel⟩, ks_mg 334 (by decide +kernel) rfl⟩
set_option maxRecDepth 100000 in
theorem kc_X4_92 : ks_CV RX4 92 yX4_refusal cX4_refusal 4 (some .int) 2 := ⟨kb_X4_refusal, ks_mg 336 (by decide +kernel) rfl, ks_mg 337 (by decide +kernel) rfl, ks_mg 338 (by decide +kernel) rfl⟩
set_option maxRecDepth 100000 in
theorem kc_X4_100 : ks_CV RX4 100 yX4_naps cX4_naps 2 (some .boolean) 1 := ⟨kb_X4_naps, ks_mg 340 (by decide +kernel) rfl, ks_mg 342 (by decide +kernel) rfl, ks_mg 1 (by decide +kernel) rfl⟩
set_option maxRecDepth 100000 in
theorem kc_X4_137 : ks_CS RX4 137 yX4_cost cX4_cost 1 (some .int) 1 := ⟨kb_X4_cost, Or.inl (ks_mg 344 (by decide +kernel) rfl), ks_mg 345 (by decide +kernel) rfl⟩
set_option maxRecDepth 100000 in
theorem kc_X4_141 : ks_CV RX4 141 yX4_isHeldBack cX4_isHeldBack 6 (some .boolean) 2 := ⟨kb_X4_isHeldBack, ks_mg 347 (by decide +kernel) rfl, ks_mg 349 (by decide +kernel) rfl, ks_mg 2 (by decide +kernel) rfl⟩
set_option maxRecDepth 100000 in
theorem kc_X4_153 : ks_CV RX4 153 yX5_boundEdgeSet cX5_boundEdgeSet 9 (some .int) 2 := ⟨kb_X5_boundEdgeSet, ks_mg 354 (by decide +kernel) rfl, ks_mg 355 (by decide +kernel) rfl, ks_mg 356 (by decide +kernel) rfl⟩
set_option maxRecDepth 100000 in
theorem kc_X4_145 : ks_CV RX4 145 yX4_ballLasts cX4_ballLasts 7 (some .boolean) 2 := ⟨kb_X4_ballLasts, ks_mg 358 (by decide +kernel) rfl, ks_mg 360 (by decide +kernel) rfl, ks_mg 3 (by decide +kernel) rfl⟩
set_option maxRecDepth 100000 in
theorem kc_X4_156 : ks_CS RX4 156 yX4_edgeOnWay cX4_edgeOnWay 3 (some .int) 3 := ⟨kb_X4_edgeOnWay, Or.inl (ks_mg 362 (by decide +kernel) rfl), ks_mg 363 (by decide +kernel) rfl⟩
set_option maxRecDepth 100000 in
theorem kc_X4_160 : ks_CV RX4 160 yX5_topOwner cX5_topOwner 3 (some .int) 1 := ⟨kb_X5_topOwner, ks_mg 365 (by decide +kernel) rfl, ks_mg 366 (by decide +kernel) rfl, ks_mg 367 (by decide +kernel) rfl⟩
set_option maxRecDepth 100000 in
theorem kc_X4_96 : ks_CV RX4 96 yX4_makeLeap cX4_makeLeap 5 none 2 := ⟨kb_X4_makeLeap, ks_mg 369 (by decide +kernel) rfl, ks_mg 370 (by decide +kernel) rfl, ks_mg 371 (by decide +kernel) rfl⟩
set_option maxRecDepth 100000 in
theorem kc_X4_163 : ks_CV RX4 163 yX4_comeOver cX4_comeOver 3 none 2 := ⟨kb_X4_comeOver, ks_mg 373 (by decide +kernel) rfl, ks_mg 375 (by decide +kernel) rfl, ks_mg 4 (by decide +kernel) rfl⟩
set_option maxRecDepth 100000 in
theorem kc_X4_166 : ks_CV RX4 166 yX5_removeTop cX5_removeTop 4 none 1 := ⟨kb_X5_removeTop, ks_mg 377 (by decide +kernel) rfl, ks_mg 378 (by decide +kernel) rfl, ks_mg 379 (by decide +kernel) rfl⟩
set_option maxRecDepth 100000 in
theorem kc_X4_170 : ks_CV RX4 170 yX5_lay cX5_lay 3 none 2 := ⟨kb_X5_lay, ks_mg 381 (by decide +kernel) rfl, ks_mg 382 (by decide +kernel) rfl, ks_mg 383 (by decide +kernel) rfl⟩
set_option maxRecDepth 100000 in
theorem kc_L_27 : ks_CV RL 27 yX6_nap cX6_nap 2 (some .int) 1 := ⟨kb_X6_nap, ks_mg 385 (by decide +kernel) rfl, ks_mg 386 (by decide +kernel) rfl, ks_mg 387 (by decide +kernel) rfl⟩
set_option maxRecDepth 100000 in
theorem kc_X6_62 : ks_CV RX6 62 yX4_beginNap cX4_beginNap 2 (some .int) 1 := ⟨kb_X4_beginNap, ks_mg 389 (by decide +kernel) rfl, ks_mg 390 (by decide +kernel) rfl, ks_mg 391 (by decide +kernel) rfl⟩
set_option maxRecDepth 100000 in
theorem kc_L_31 : ks_CV RL 31 yX6_snip cX6_snip 3 (some .int) 2 := ⟨kb_X6_snip, ks_mg 393 (by decide +kernel) rfl, ks_mg 394 (by decide +kernel) rfl, ks_mg 395 (by decide +kernel) rfl⟩
set_option maxRecDepth 100000 in
theorem kc_X6_65 : ks_CV RX6 65 yX4_snipStrands cX4_snipStrands 4 (some .int) 2 := ⟨kb_X4_snipStrands, ks_mg 397 (by decide +kernel) rfl, ks_mg 398 (by decide +kernel) rfl, ks_mg 399 (by decide +kernel) rfl⟩
set_option maxRecDepth 100000 in
theorem kc_X4_103 : ks_CS RX4 103 yX6_isEdge cX6_isEdge 1 (some .boolean) 1 := ⟨kb_X6_isEdge, Or.inr ⟨RX6, by decide +kernel⟩, ks_mg 402 (by decide +kernel) rfl⟩
set_option maxRecDepth 100000 in
theorem kc_X4_106 : ks_CV RX4 106 yX5_removeAll cX5_removeAll 5 (some .int) 2 := ⟨kb_X5_removeAll, ks_mg 404 (by decide +kernel) rfl, ks_mg 405 (by decide +kernel) rfl, ks_mg 406 (by decide +kernel) rfl⟩
set_option maxRecDepth 100000 in
theorem kc_L_35 : ks_CV RL 35 yX6_plan cX6_plan 4 (some .int) 3 := ⟨kb_X6_plan, ks_mg 408 (by decide +kernel) rfl, ks_mg 409 (by decide +kernel) rfl, ks_mg 410 (by decide +kernel) rfl⟩
set_option maxRecDepth 100000 in
theorem kc_X6_68 : ks_CV RX6 68 yX4_planLeap cX4_planLeap 4 (some .int) 3 := ⟨kb_X4_planLeap, ks_mg 412 (by decide +kernel) rfl, ks_mg 413 (by decide +kernel) rfl, ks_mg 414 (by decide +kernel) rfl⟩
set_option maxRecDepth 100000 in
theorem kc_X4_112 : ks_CV RX4 112 yX3_insert cX3_insert 5 none 3 := ⟨kb_X3_insert, ks_mg 416 (by decide +kernel) rfl, ks_mg 417 (by decide +kernel) rfl, ks_mg 418 (by decide +kernel) rfl⟩
set_option maxRecDepth 100000 in
theorem kc_X3_31 : ks_CV RX3 31 yX3_isLater cX3_isLater 4 (some .boolean) 3 := ⟨kb_X3_isLater, ks_mg 420 (by decide +kernel) rfl, ks_mg 422 (by decide +kernel) rfl, ks_mg 5 (by decide +kernel) rfl⟩
set_option maxRecDepth 100000 in
theorem kc_X3_35 : ks_CV RX3 35 yX3_move cX3_move 3 none 2 := ⟨kb_X3_move, ks_mg 424 (by decide +kernel) rfl, ks_mg 426 (by decide +kernel) rfl, ks_mg 6 (by decide +kernel) rfl⟩
set_option maxRecDepth 100000 in
theorem kc_L_40 : ks_CV RL 40 yX6_pass cX6_pass 2 (some .int) 1 := ⟨kb_X6_pass, ks_mg 428 (by decide +kernel) rfl, ks_mg 429 (by decide +kernel) rfl, ks_mg 430 (by decide +kernel) rfl⟩
set_option maxRecDepth 100000 in
theorem kc_X6_72 : ks_CV RX6 72 yX4_passTurns cX4_passTurns 4 (some .int) 1 := ⟨kb_X4_passTurns, ks_mg 432 (by decide +kernel) rfl, ks_mg 433 (by decide +kernel) rfl, ks_mg 434 (by decide +kernel) rfl⟩
set_option maxRecDepth 100000 in
theorem kc_X4_116 : ks_CV RX4 116 yX4_passOneTurn cX4_passOneTurn 5 (some .int) 0 := ⟨kb_X4_passOneTurn, ks_mg 436 (by decide +kernel) rfl, ks_mg 437 (by decide +kernel) rfl, ks_mg 438 (by decide +kernel) rfl⟩
set_option maxRecDepth 100000 in
theorem kc_X4_120 : ks_CV RX4 120 yX4_wakeKittens cX4_wakeKittens 2 none 0 := ⟨kb_X4_wakeKittens, ks_mg 440 (by decide +kernel) rfl, ks_mg 442 (by decide +kernel) rfl, ks_mg 7 (by decide +kernel) rfl⟩
set_option maxRecDepth 100000 in
theorem kc_X4_123 : ks_CV RX4 123 yX3_firstTurn cX3_firstTurn 1 (some .int) 0 := ⟨kb_X3_firstTurn, ks_mg 444 (by decide +kernel) rfl, ks_mg 445 (by decide +kernel) rfl, ks_mg 446 (by decide +kernel) rfl⟩
set_option maxRecDepth 100000 in
theorem kc_X4_131 : ks_CV RX4 131 yX3_removeFirst cX3_removeFirst 2 none 0 := ⟨kb_X3_removeFirst, ks_mg 448 (by decide +kernel) rfl, ks_mg 449 (by decide +kernel) rfl, ks_mg 450 (by decide +kernel) rfl⟩
set_option maxRecDepth 100000 in
theorem kc_X4_134 : ks_CV RX4 134 yX4_refreshKittens cX4_refreshKittens 2 none 0 := ⟨kb_X4_refreshKittens, ks_mg 452 (by decide +kernel) rfl, ks_mg 454 (by decide +kernel) rfl, ks_mg 8 (by decide +kernel) rfl⟩
set_option maxRecDepth 100000 in
theorem kc_L_44 : ks_CV RL 44 yX6_of cX6_of 3 (some .int) 2 := ⟨kb_X6_of, ks_mg 456 (by decide +kernel) rfl, ks_mg 457 (by decide +kernel) rfl, ks_mg 458 (by decide +kernel) rfl⟩
set_option maxRecDepth 100000 in
theorem kc_X6_75 : ks_CV RX6 75 yX4_hasKitten cX4_hasKitten 2 (some .boolean) 1 := ⟨kb_X4_hasKitten, ks_mg 460 (by decide +kernel) rfl, ks_mg 330 (by decide +kernel) rfl, ks_mg 331 (by decide +kernel) rfl⟩
set_option maxRecDepth 100000 in
theorem kc_X6_96 : ks_CV RX6 96 yX5_lyingOf cX5_lyingOf 4 (some .int) 1 := ⟨kb_X5_lyingOf, ks_mg 461 (by decide +kernel) rfl, ks_mg 462 (by decide +kernel) rfl, ks_mg 463 (by decide +kernel) rfl⟩
set_option maxRecDepth 100000 in
theorem kc_X6_110 : ks_CV RX6 110 yX4_boundSet cX4_boundSet 4 (some .int) 1 := ⟨kb_X4_boundSet, ks_mg 465 (by decide +kernel) rfl, ks_mg 466 (by decide +kernel) rfl, ks_mg 467 (by decide +kernel) rfl⟩
set_option maxRecDepth 100000 in
theorem kc_X6_113 : ks_CV RX6 113 yX4_reachSet cX4_reachSet 5 (some .int) 1 := ⟨kb_X4_reachSet, ks_mg 469 (by decide +kernel) rfl, ks_mg 470 (by decide +kernel) rfl, ks_mg 471 (by decide +kernel) rfl⟩
set_option maxRecDepth 100000 in
theorem kc_L_48 : ks_CV RL 48 yX6_ofEdge cX6_ofEdge 3 (some .int) 2 := ⟨kb_X6_ofEdge, ks_mg 473 (by decide +kernel) rfl, ks_mg 474 (by decide +kernel) rfl, ks_mg 475 (by decide +kernel) rfl⟩
set_option maxRecDepth 100000 in
theorem kc_X6_116 : ks_CS RX6 116 yX6_isEdge cX6_isEdge 1 (some .boolean) 1 := ⟨kb_X6_isEdge, Or.inl (ks_mg 477 (by decide +kernel) rfl), ks_mg 402 (by decide +kernel) rfl⟩
set_option maxRecDepth 100000 in
theorem kc_X6_119 : ks_CV RX6 119 yX5_lyingAt cX5_lyingAt 4 (some .int) 1 := ⟨kb_X5_lyingAt, ks_mg 478 (by decide +kernel) rfl, ks_mg 479 (by decide +kernel) rfl, ks_mg 480 (by decide +kernel) rfl⟩
set_option maxRecDepth 100000 in
theorem kc_X6_122 : ks_CV RX6 122 yX5_topOwner cX5_topOwner 3 (some .int) 1 := ⟨kb_X5_topOwner, ks_mg 482 (by decide +kernel) rfl, ks_mg 366 (by decide +kernel) rfl, ks_mg 367 (by decide +kernel) rfl⟩
set_option maxRecDepth 100000 in
theorem kc_X6_125 : ks_CV RX6 125 yX5_ownerSetAt cX5_ownerSetAt 4 (some .int) 1 := ⟨kb_X5_ownerSetAt, ks_mg 483 (by decide +kernel) rfl, ks_mg 484 (by decide +kernel) rfl, ks_mg 485 (by decide +kernel) rfl⟩
set_option maxRecDepth 100000 in
theorem kc_X6_128 : ks_CV RX6 128 yX4_boundPairs cX4_boundPairs 5 (some .int) 1 := ⟨kb_X4_boundPairs, ks_mg 487 (by decide +kernel) rfl, ks_mg 488 (by decide +kernel) rfl, ks_mg 489 (by decide +kernel) rfl⟩
set_option maxRecDepth 100000 in
theorem kc_L_52 : ks_CV RL 52 yX6_strand cX6_strand 3 (some .int) 2 := ⟨kb_X6_strand, ks_mg 491 (by decide +kernel) rfl, ks_mg 492 (by decide +kernel) rfl, ks_mg 493 (by decide +kernel) rfl⟩
set_option maxRecDepth 100000 in
theorem kc_X6_131 : ks_CV RX6 131 yX5_ownerAt cX5_ownerAt 5 (some .int) 2 := ⟨kb_X5_ownerAt, ks_mg 495 (by decide +kernel) rfl, ks_mg 496 (by decide +kernel) rfl, ks_mg 497 (by decide +kernel) rfl⟩
set_option maxRecDepth 100000 in
theorem kc_L_56 : ks_CV RL 56 yX6_bound cX6_bound 3 (some .int) 2 := ⟨kb_X6_bound, ks_mg 499 (by decide +kernel) rfl, ks_mg 500 (by decide +kernel) rfl, ks_mg 501 (by decide +kernel) rfl⟩
set_option maxRecDepth 100000 in
theorem kc_X6_134 : ks_CV RX6 134 yX5_boundEdgeSet cX5_boundEdgeSet 9 (some .int) 2 := ⟨kb_X5_boundEdgeSet, ks_mg 503 (by decide +kernel) rfl, ks_mg 355 (by decide +kernel) rfl, ks_mg 356 (by decide +kernel) rfl⟩
set_option maxRecDepth 100000 in
theorem kc_L_60 : ks_CV RL 60 yX6_planned cX6_planned 3 (some .int) 2 := ⟨kb_X6_planned, ks_mg 504 (by decide +kernel) rfl, ks_mg 505 (by decide +kernel) rfl, ks_mg 506 (by decide +kernel) rfl⟩
set_option maxRecDepth 100000 in
theorem kc_L_64 : ks_CV RL 64 yX6_count cX6_count 2 (some .int) 1 := ⟨kb_X6_count, ks_mg 508 (by decide +kernel) rfl, ks_mg 509 (by decide +kernel) rfl, ks_mg 510 (by decide +kernel) rfl⟩
set_option maxRecDepth 100000 in
theorem kc_X6_161 : ks_CV RX6 161 yX4_nappingSet cX4_nappingSet 3 (some .int) 0 := ⟨kb_X4_nappingSet, ks_mg 512 (by decide +kernel) rfl, ks_mg 513 (by decide +kernel) rfl, ks_mg 514 (by decide +kernel) rfl⟩
set_option maxRecDepth 100000 in
theorem kc_X6_168 : ks_CV RX6 168 yX4_sumOfAll cX4_sumOfAll 4 (some .int) 1 := ⟨kb_X4_sumOfAll, ks_mg 516 (by decide +kernel) rfl, ks_mg 517 (by decide +kernel) rfl, ks_mg 518 (by decide +kernel) rfl⟩
set_option maxRecDepth 100000 in
theorem kc_L_68 : ks_CV RL 68 yX6_why cX6_why 3 (some .int) 2 := ⟨kb_X6_why, ks_mg 520 (by decide +kernel) rfl, ks_mg 521 (by decide +kernel) rfl, ks_mg 522 (by decide +kernel) rfl⟩
set_option maxRecDepth 100000 in
theorem kc_X6_185 : ks_CS RX6 185 yX6_isLeap cX6_isLeap 1 (some .boolean) 1 := ⟨kb_X6_isLeap, Or.inl (ks_mg 524 (by decide +kernel) rfl), ks_mg 334 (by decide +kernel) rfl⟩
set_option maxRecDepth 100000 in
theorem kc_X6_188 : ks_CV RX6 188 yX4_refusal cX4_refusal 4 (some .int) 2 := ⟨kb_X4_refusal, ks_mg 525 (by decide +kernel) rfl, ks_mg 337 (by decide +kernel) rfl, ks_mg 338 (by decide +kernel) rfl⟩
set_option maxRecDepth 100000 in
theorem kc_L_72 : ks_CV RL 72 yX6_ifLeapt cX6_ifLeapt 4 (some .int) 3 := ⟨kb_X6_ifLeapt, ks_mg 526 (by decide +kernel) rfl, ks_mg 527 (by decide +kernel) rfl, ks_mg 528 (by decide +kernel) rfl⟩
set_option maxRecDepth 100000 in
theorem kc_X6_191 : ks_CV RX6 191 yX4_copyFrom cX4_copyFrom 2 none 1 := ⟨kb_X4_copyFrom, ks_mg 530 (by decide +kernel) rfl, ks_mg 284 (by decide +kernel) rfl, ks_mg 285 (by decide +kernel) rfl⟩
set_option maxRecDepth 100000 in
theorem kc_X6_194 : ks_CV RX6 194 yX4_makeLeap cX4_makeLeap 5 none 2 := ⟨kb_X4_makeLeap, ks_mg 531 (by decide +kernel) rfl, ks_mg 370 (by decide +kernel) rfl, ks_mg 371 (by decide +kernel) rfl⟩
set_option maxRecDepth 100000 in
theorem kc_L_76 : ks_CV RL 76 yX6_frees cX6_frees 5 (some .int) 2 := ⟨kb_X6_frees, ks_mg 532 (by decide +kernel) rfl, ks_mg 533 (by decide +kernel) rfl, ks_mg 534 (by decide +kernel) rfl⟩
set_option maxRecDepth 100000 in
theorem kc_X6_198 : ks_CV RX6 198 yX5_fewestGone cX5_fewestGone 6 (some .int) 3 := ⟨kb_X5_fewestGone, ks_mg 536 (by decide +kernel) rfl, ks_mg 537 (by decide +kernel) rfl, ks_mg 538 (by decide +kernel) rfl⟩
set_option maxRecDepth 100000 in
theorem kc_X5_28 : ks_CV RX5 28 yX5_mostKept cX5_mostKept 7 (some .int) 3 := ⟨kb_X5_mostKept, ks_mg 540 (by decide +kernel) rfl, ks_mg 542 (by decide +kernel) rfl, ks_mg 9 (by decide +kernel) rfl⟩
set_option maxRecDepth 100000 in
theorem kc_L_80 : ks_CV RL 80 yX6_quietIn cX6_quietIn 2 (some .int) 0 := ⟨kb_X6_quietIn, ks_mg 547 (by decide +kernel) rfl, ks_mg 548 (by decide +kernel) rfl, ks_mg 549 (by decide +kernel) rfl⟩
set_option maxRecDepth 100000 in
theorem kc_X6_201 : ks_CV RX6 201 yX4_lastWaking cX4_lastWaking 3 (some .int) 0 := ⟨kb_X4_lastWaking, ks_mg 551 (by decide +kernel) rfl, ks_mg 552 (by decide +kernel) rfl, ks_mg 553 (by decide +kernel) rfl⟩
set_option maxRecDepth 100000 in
theorem kc_X6_204 : ks_CV RX6 204 yX3_lastTurn cX3_lastTurn 1 (some .int) 0 := ⟨kb_X3_lastTurn, ks_mg 556 (by decide +kernel) rfl, ks_mg 557 (by decide +kernel) rfl, ks_mg 558 (by decide +kernel) rfl⟩
set_option maxRecDepth 100000 in
theorem kc_L_85 : ks_CV RL 85 yX6_stepIn cX6_stepIn 4 (some .int) 2 := ⟨kb_X6_stepIn, ks_mg 561 (by decide +kernel) rfl, ks_mg 562 (by decide +kernel) rfl, ks_mg 563 (by decide +kernel) rfl⟩
set_option maxRecDepth 100000 in
theorem kc_X6_212 : ks_CV RX6 212 yX4_passOneTurn cX4_passOneTurn 5 (some .int) 0 := ⟨kb_X4_passOneTurn, ks_mg 565 (by decide +kernel) rfl, ks_mg 437 (by decide +kernel) rfl, ks_mg 438 (by decide +kernel) rfl⟩
set_option maxRecDepth 100000 in
theorem kc_L_89 : ks_CV RL 89 yX6_thickest cX6_thickest 5 (some .int) 0 := ⟨kb_X6_thickest, ks_mg 566 (by decide +kernel) rfl, ks_mg 567 (by decide +kernel) rfl, ks_mg 568 (by decide +kernel) rfl⟩
set_option maxRecDepth 100000 in
theorem kc_L_95 : ks_CV RL 95 yX6_put cX6_put 3 (some .int) 1 := ⟨kb_X6_put, ks_mg 570 (by decide +kernel) rfl, ks_mg 571 (by decide +kernel) rfl, ks_mg 572 (by decide +kernel) rfl⟩
set_option maxRecDepth 100000 in
theorem kc_X6_215 : ks_CV RX6 215 yX2_append cX2_append 5 (some .int) 1 := ⟨kb_X2_append, ks_mg 574 (by decide +kernel) rfl, ks_mg 575 (by decide +kernel) rfl, ks_mg 576 (by decide +kernel) rfl⟩
set_option maxRecDepth 100000 in
theorem kc_X2_19 : ks_CS RX2 19 yX2_signsIn cX2_signsIn 7 (some .int) 1 := ⟨kb_X2_signsIn, Or.inl (ks_mg 578 (by decide +kernel) rfl), ks_mg 579 (by decide +kernel) rfl⟩
set_option maxRecDepth 100000 in
theorem kc_L_100 : ks_CV RL 100 yX6_wipe cX6_wipe 1 (some .int) 0 := ⟨kb_X6_wipe, ks_mg 584 (by decide +kernel) rfl, ks_mg 585 (by decide +kernel) rfl, ks_mg 586 (by decide +kernel) rfl⟩
set_option maxRecDepth 100000 in
theorem kc_X6_219 : ks_CV RX6 219 yX2_empty cX2_empty 2 (some .int) 0 := ⟨kb_X2_empty, ks_mg 588 (by decide +kernel) rfl, ks_mg 589 (by decide +kernel) rfl, ks_mg 590 (by decide +kernel) rfl⟩
set_option maxRecDepth 100000 in
theorem kc_L_104 : ks_CV RL 104 yX6_fault cX6_fault 1 (some .int) 0 := ⟨kb_X6_fault, ks_mg 592 (by decide +kernel) rfl, ks_mg 593 (by decide +kernel) rfl, ks_mg 594 (by decide +kernel) rfl⟩
set_option maxRecDepth 100000 in
theorem kc_X6_222 : ks_CV RX6 222 yX1_read cX1_read 2 (some .int) 1 := ⟨kb_X1_read, ks_mg 596 (by decide +kernel) rfl, ks_mg 597 (by decide +kernel) rfl, ks_mg 598 (by decide +kernel) rfl⟩
set_option maxRecDepth 100000 in
theorem kc_X1_29 : ks_CV RX1 29 yX1_readOrder cX1_readOrder 3 (some .boolean) 1 := ⟨kb_X1_readOrder, ks_mg 600 (by decide +kernel) rfl, ks_mg 602 (by decide +kernel) rfl, ks_mg 10 (by decide +kernel) rfl⟩
set_option maxRecDepth 100000 in
theorem kc_X1_42 : ks_CV RX1 42 yX2_signAt cX2_signAt 2 (some .int) 1 := ⟨kb_X2_signAt, ks_mg 604 (by decide +kernel) rfl, ks_mg 605 (by decide +kernel) rfl, ks_mg 606 (by decide +kernel) rfl⟩
set_option maxRecDepth 100000 in
theorem kc_X1_46 : ks_CS RX1 46 yX1_isLetter cX1_isLetter 1 (some .boolean) 1 := ⟨kb_X1_isLetter, Or.inl (ks_mg 608 (by decide +kernel) rfl), ks_mg 609 (by decide +kernel) rfl⟩
set_option maxRecDepth 100000 in
theorem kc_X1_50 : ks_CV RX1 50 yX1_readDigit cX1_readDigit 4 (some .boolean) 2 := ⟨kb_X1_readDigit, ks_mg 611 (by decide +kernel) rfl, ks_mg 613 (by decide +kernel) rfl, ks_mg 11 (by decide +kernel) rfl⟩
set_option maxRecDepth 100000 in
theorem kc_X1_59 : ks_CV RX1 59 yX1_digit cX1_digit 3 (some .int) 1 := ⟨kb_X1_digit, ks_mg 615 (by decide +kernel) rfl, ks_mg 617 (by decide +kernel) rfl, ks_mg 12 (by decide +kernel) rfl⟩
set_option maxRecDepth 100000 in
theorem kc_X1_63 : ks_CV RX1 63 yX1_keep cX1_keep 3 (some .boolean) 2 := ⟨kb_X1_keep, ks_mg 619 (by decide +kernel) rfl, ks_mg 621 (by decide +kernel) rfl, ks_mg 13 (by decide +kernel) rfl⟩
set_option maxRecDepth 100000 in
theorem kc_X1_25 : ks_CS RX1 25 yX1_hasPart cX1_hasPart 2 (some .boolean) 2 := ⟨kb_X1_hasPart, Or.inl (ks_mg 623 (by decide +kernel) rfl), ks_mg 624 (by decide +kernel) rfl⟩
set_option maxRecDepth 100000 in
theorem kc_X1_53 : ks_CV RX1 53 yX1_readBy cX1_readBy 5 (some .boolean) 2 := ⟨kb_X1_readBy, ks_mg 626 (by decide +kernel) rfl, ks_mg 628 (by decide +kernel) rfl, ks_mg 14 (by decide +kernel) rfl⟩
set_option maxRecDepth 100000 in
theorem kc_X1_38 : ks_CV RX1 38 yX1_readSign cX1_readSign 3 (some .boolean) 2 := ⟨kb_X1_readSign, ks_mg 630 (by decide +kernel) rfl, ks_mg 632 (by decide +kernel) rfl, ks_mg 15 (by decide +kernel) rfl⟩
set_option maxRecDepth 100000 in
theorem kc_X1_66 : ks_CV RX1 66 yX1_number cX1_number 4 (some .int) 1 := ⟨kb_X1_number, ks_mg 634 (by decide +kernel) rfl, ks_mg 636 (by decide +kernel) rfl, ks_mg 16 (by decide +kernel) rfl⟩
set_option maxRecDepth 100000 in
theorem kc_X1_56 : ks_CV RX1 56 yX1_readNumber cX1_readNumber 4 (some .boolean) 2 := ⟨kb_X1_readNumber, ks_mg 638 (by decide +kernel) rfl, ks_mg 640 (by decide +kernel) rfl, ks_mg 17 (by decide +kernel) rfl⟩
set_option maxRecDepth 100000 in
theorem kc_L_108 : ks_CV RL 108 yX6_carryOut cX6_carryOut 2 (some .int) 0 := ⟨kb_X6_carryOut, ks_mg 642 (by decide +kernel) rfl, ks_mg 643 (by decide +kernel) rfl, ks_mg 644 (by decide +kernel) rfl⟩
set_option maxRecDepth 100000 in
theorem kc_X6_227 : ks_CV RX6 227 yX6_carryOneOut cX6_carryOneOut 5 (some .int) 1 := ⟨kb_X6_carryOneOut, ks_mg 646 (by decide +kernel) rfl, ks_mg 648 (by decide +kernel) rfl, ks_mg 18 (by decide +kernel) rfl⟩
set_option maxRecDepth 100000 in
theorem kc_X6_240 : ks_CV RX6 240 yX1_part cX1_part 3 (some .int) 2 := ⟨kb_X1_part, ks_mg 650 (by decide +kernel) rfl, ks_mg 651 (by decide +kernel) rfl, ks_mg 652 (by decide +kernel) rfl⟩
set_option maxRecDepth 100000 in
theorem kc_X6_243 : ks_CV RX6 243 yX1_letter cX1_letter 2 (some .int) 1 := ⟨kb_X1_letter, ks_mg 654 (by decide +kernel) rfl, ks_mg 655 (by decide +kernel) rfl, ks_mg 656 (by decide +kernel) rfl⟩
set_option maxRecDepth 100000 in
theorem kc_L_112 : ks_CV RL 112 yX6_undo cX6_undo 1 (some .int) 0 := ⟨kb_X6_undo, ks_mg 658 (by decide +kernel) rfl, ks_mg 659 (by decide +kernel) rfl, ks_mg 660 (by decide +kernel) rfl⟩
set_option maxRecDepth 100000 in
theorem kc_X6_230 : ks_CV RX6 230 yX0_takeBack cX0_takeBack 2 none 1 := ⟨kb_X0_takeBack, ks_mg 662 (by decide +kernel) rfl, ks_mg 663 (by decide +kernel) rfl, ks_mg 664 (by decide +kernel) rfl⟩
set_option maxRecDepth 100000 in
theorem kc_L_116 : ks_CV RL 116 yX6_save cX6_save 2 (some .int) 1 := ⟨kb_X6_save, ks_mg 666 (by decide +kernel) rfl, ks_mg 667 (by decide +kernel) rfl, ks_mg 668 (by decide +kernel) rfl⟩
set_option maxRecDepth 100000 in
theorem kc_X6_233 : ks_CS RX6 233 yX6_roomAt cX6_roomAt 3 (some (.object "KittenStairs$Stairs")) 2 := ⟨kb_X6_roomAt, Or.inl (ks_mg 670 (by decide +kernel) rfl), ks_mg 281 (by decide +kernel) rfl⟩
set_option maxRecDepth 100000 in
theorem kc_L_120 : ks_CV RL 120 yX6_restore cX6_restore 3 (some .int) 1 := ⟨kb_X6_restore, ks_mg 671 (by decide +kernel) rfl, ks_mg 672 (by decide +kernel) rfl, ks_mg 673 (by decide +kernel) rfl⟩
set_option maxRecDepth 100000 in
theorem kc_L_12 : ks_CI RL 12 yX7_init cX7_init 1 0 := ⟨kb_X7_init, Or.inl (ks_mg 677 (by decide +kernel) rfl), ks_mg 678 (by decide +kernel) rfl, rfl⟩
set_option maxRecDepth 100000 in
theorem kc_L_17 : ks_CV RL 17 yX7_set cX7_set 4 (some .int) 2 := ⟨kb_X7_set, ks_mg 713 (by decide +kernel) rfl, ks_mg 714 (by decide +kernel) rfl, ks_mg 715 (by decide +kernel) rfl⟩
set_option maxRecDepth 100000 in
theorem kc_X7_126 : ks_CS RX7 126 yX7_isValue cX7_isValue 2 (some .boolean) 2 := ⟨kb_X7_isValue, Or.inl (ks_mg 717 (by decide +kernel) rfl), ks_mg 718 (by decide +kernel) rfl⟩
set_option maxRecDepth 100000 in
theorem kc_X7_70 : ks_CS RX7 70 yX7_in cX7_in 6 (some .boolean) 3 := ⟨kb_X7_in, Or.inl (ks_mg 721 (by decide +kernel) rfl), ks_mg 722 (by decide +kernel) rfl⟩
set_option maxRecDepth 100000 in
theorem kc_X7_129 : ks_CV RX7 129 yX7_changes cX7_changes 2 none 0 := ⟨kb_X7_changes, ks_mg 728 (by decide +kernel) rfl, ks_mg 730 (by decide +kernel) rfl, ks_mg 19 (by decide +kernel) rfl⟩
set_option maxRecDepth 100000 in
theorem kc_X7_24 : ks_CV RX7 24 yX7_copies cX7_copies 4 none 2 := ⟨kb_X7_copies, ks_mg 732 (by decide +kernel) rfl, ks_mg 734 (by decide +kernel) rfl, ks_mg 20 (by decide +kernel) rfl⟩
set_option maxRecDepth 100000 in
theorem kc_L_22 : ks_CV RL 22 yX7_kitten cX7_kitten 3 (some .int) 1 := ⟨kb_X7_kitten, ks_mg 736 (by decide +kernel) rfl, ks_mg 737 (by decide +kernel) rfl, ks_mg 738 (by decide +kernel) rfl⟩
set_option maxRecDepth 100000 in
theorem kc_X7_132 : ks_CV RX7 132 yX7_kittenError cX7_kittenError 2 (some .int) 1 := ⟨kb_X7_kittenError, ks_mg 740 (by decide +kernel) rfl, ks_mg 742 (by decide +kernel) rfl, ks_mg 21 (by decide +kernel) rfl⟩
set_option maxRecDepth 100000 in
theorem kc_X7_135 : ks_CV RX7 135 yX7_comes cX7_comes 4 (some .int) 1 := ⟨kb_X7_comes, ks_mg 744 (by decide +kernel) rfl, ks_mg 746 (by decide +kernel) rfl, ks_mg 22 (by decide +kernel) rfl⟩
set_option maxRecDepth 100000 in
theorem kc_X7_28 : ks_CS RX7 28 yX7_kittenAt cX7_kittenAt 2 (some .int) 2 := ⟨kb_X7_kittenAt, Or.inl (ks_mg 748 (by decide +kernel) rfl), ks_mg 749 (by decide +kernel) rfl⟩
set_option maxRecDepth 100000 in
theorem kc_L_26 : ks_CV RL 26 yX7_leap cX7_leap 4 (some .int) 2 := ⟨kb_X7_leap, ks_mg 751 (by decide +kernel) rfl, ks_mg 752 (by decide +kernel) rfl, ks_mg 753 (by decide +kernel) rfl⟩
set_option maxRecDepth 100000 in
theorem kc_X7_138 : ks_CV RX7 138 yX7_leapError cX7_leapError 3 (some .int) 2 := ⟨kb_X7_leapError, ks_mg 755 (by decide +kernel) rfl, ks_mg 757 (by decide +kernel) rfl, ks_mg 23 (by decide +kernel) rfl⟩
set_option maxRecDepth 100000 in
theorem kc_X7_103 : ks_CV RX7 103 yX7_isKitten cX7_isKitten 2 (some .boolean) 1 := ⟨kb_X7_isKitten, ks_mg 759 (by decide +kernel) rfl, ks_mg 761 (by decide +kernel) rfl, ks_mg 24 (by decide +kernel) rfl⟩
set_option maxRecDepth 100000 in
theorem kc_X7_107 : ks_CS RX7 107 yX7_areSteps cX7_areSteps 1 (some .boolean) 1 := ⟨kb_X7_areSteps, Or.inl (ks_mg 763 (by decide +kernel) rfl), ks_mg 764 (by decide +kernel) rfl⟩
set_option maxRecDepth 100000 in
theorem kc_X7_90 : ks_CV RX7 90 yX7_reason cX7_reason 5 (some .int) 3 := ⟨kb_X7_reason, ks_mg 767 (by decide +kernel) rfl, ks_mg 769 (by decide +kernel) rfl, ks_mg 25 (by decide +kernel) rfl⟩
set_option maxRecDepth 100000 in
theorem kc_X7_64 : ks_CV RX7 64 yX7_naps cX7_naps 3 (some .boolean) 2 := ⟨kb_X7_naps, ks_mg 771 (by decide +kernel) rfl, ks_mg 773 (by decide +kernel) rfl, ks_mg 26 (by decide +kernel) rfl⟩
set_option maxRecDepth 100000 in
theorem kc_X7_74 : ks_CS RX7 74 yX7_cost cX7_cost 1 (some .int) 1 := ⟨kb_X7_cost, Or.inl (ks_mg 775 (by decide +kernel) rfl), ks_mg 776 (by decide +kernel) rfl⟩
set_option maxRecDepth 100000 in
theorem kc_X7_77 : ks_CV RX7 77 yX7_isHeldBack cX7_isHeldBack 10 (some .boolean) 3 := ⟨kb_X7_isHeldBack, ks_mg 778 (by decide +kernel) rfl, ks_mg 780 (by decide +kernel) rfl, ks_mg 27 (by decide +kernel) rfl⟩
set_option maxRecDepth 100000 in
theorem kc_X7_53 : ks_CV RX7 53 yX7_boundTo cX7_boundTo 5 (some .int) 2 := ⟨kb_X7_boundTo, ks_mg 782 (by decide +kernel) rfl, ks_mg 784 (by decide +kernel) rfl, ks_mg 28 (by decide +kernel) rfl⟩
set_option maxRecDepth 100000 in
theorem kc_X7_50 : ks_CV RX7 50 yX7_boundEdges cX7_boundEdges 6 (some .int) 3 := ⟨kb_X7_boundEdges, ks_mg 786 (by decide +kernel) rfl, ks_mg 788 (by decide +kernel) rfl, ks_mg 29 (by decide +kernel) rfl⟩
set_option maxRecDepth 100000 in
theorem kc_X7_46 : ks_CV RX7 46 yX7_areBoundAt cX7_areBoundAt 9 (some .boolean) 4 := ⟨kb_X7_areBoundAt, ks_mg 790 (by decide +kernel) rfl, ks_mg 792 (by decide +kernel) rfl, ks_mg 30 (by decide +kernel) rfl⟩
set_option maxRecDepth 100000 in
theorem kc_X7_32 : ks_CV RX7 32 yX7_ownerAt cX7_ownerAt 5 (some .int) 3 := ⟨kb_X7_ownerAt, ks_mg 794 (by decide +kernel) rfl, ks_mg 796 (by decide +kernel) rfl, ks_mg 31 (by decide +kernel) rfl⟩
set_option maxRecDepth 100000 in
theorem kc_X7_56 : ks_CS RX7 56 yX7_size cX7_size 1 (some .int) 1 := ⟨kb_X7_size, Or.inl (ks_mg 798 (by decide +kernel) rfl), ks_mg 799 (by decide +kernel) rfl⟩
set_option maxRecDepth 100000 in
theorem kc_X7_80 : ks_CV RX7 80 yX7_isTooShort cX7_isTooShort 7 (some .boolean) 3 := ⟨kb_X7_isTooShort, ks_mg 801 (by decide +kernel) rfl, ks_mg 803 (by decide +kernel) rfl, ks_mg 32 (by decide +kernel) rfl⟩
set_option maxRecDepth 100000 in
theorem kc_X7_60 : ks_CV RX7 60 yX7_edgeOf cX7_edgeOf 6 (some .int) 4 := ⟨kb_X7_edgeOf, ks_mg 805 (by decide +kernel) rfl, ks_mg 807 (by decide +kernel) rfl, ks_mg 33 (by decide +kernel) rfl⟩
set_option maxRecDepth 100000 in
theorem kc_X7_39 : ks_CV RX7 39 yX7_windsBack cX7_windsBack 5 (some .boolean) 3 := ⟨kb_X7_windsBack, ks_mg 809 (by decide +kernel) rfl, ks_mg 811 (by decide +kernel) rfl, ks_mg 34 (by decide +kernel) rfl⟩
set_option maxRecDepth 100000 in
theorem kc_X7_36 : ks_CV RX7 36 yX7_top cX7_top 5 (some .int) 2 := ⟨kb_X7_top, ks_mg 813 (by decide +kernel) rfl, ks_mg 815 (by decide +kernel) rfl, ks_mg 35 (by decide +kernel) rfl⟩
set_option maxRecDepth 100000 in
theorem kc_X7_93 : ks_CV RX7 93 yX7_leaps cX7_leaps 7 (some .int) 3 := ⟨kb_X7_leaps, ks_mg 817 (by decide +kernel) rfl, ks_mg 819 (by decide +kernel) rfl, ks_mg 36 (by decide +kernel) rfl⟩
set_option maxRecDepth 100000 in
theorem kc_X7_83 : ks_CV RX7 83 yX7_crosses cX7_crosses 5 none 3 := ⟨kb_X7_crosses, ks_mg 821 (by decide +kernel) rfl, ks_mg 823 (by decide +kernel) rfl, ks_mg 37 (by decide +kernel) rfl⟩
set_option maxRecDepth 100000 in
theorem kc_X7_43 : ks_CV RX7 43 yX7_removesStrand cX7_removesStrand 4 none 2 := ⟨kb_X7_removesStrand, ks_mg 825 (by decide +kernel) rfl, ks_mg 827 (by decide +kernel) rfl, ks_mg 38 (by decide +kernel) rfl⟩
set_option maxRecDepth 100000 in
theorem kc_L_30 : ks_CV RL 30 yX7_nap cX7_nap 3 (some .int) 1 := ⟨kb_X7_nap, ks_mg 829 (by decide +kernel) rfl, ks_mg 830 (by decide +kernel) rfl, ks_mg 831 (by decide +kernel) rfl⟩
set_option maxRecDepth 100000 in
theorem kc_X7_141 : ks_CV RX7 141 yX7_napError cX7_napError 2 (some .int) 1 := ⟨kb_X7_napError, ks_mg 833 (by decide +kernel) rfl, ks_mg 835 (by decide +kernel) rfl, ks_mg 39 (by decide +kernel) rfl⟩
set_option maxRecDepth 100000 in
theorem kc_X7_144 : ks_CV RX7 144 yX7_sleeps cX7_sleeps 2 (some .int) 1 := ⟨kb_X7_sleeps, ks_mg 837 (by decide +kernel) rfl, ks_mg 839 (by decide +kernel) rfl, ks_mg 40 (by decide +kernel) rfl⟩
set_option maxRecDepth 100000 in
theorem kc_L_34 : ks_CV RL 34 yX7_snip cX7_snip 4 (some .int) 2 := ⟨kb_X7_snip, ks_mg 841 (by decide +kernel) rfl, ks_mg 842 (by decide +kernel) rfl, ks_mg 843 (by decide +kernel) rfl⟩
set_option maxRecDepth 100000 in
theorem kc_X7_147 : ks_CV RX7 147 yX7_snipError cX7_snipError 3 (some .int) 2 := ⟨kb_X7_snipError, ks_mg 845 (by decide +kernel) rfl, ks_mg 847 (by decide +kernel) rfl, ks_mg 41 (by decide +kernel) rfl⟩
set_option maxRecDepth 100000 in
theorem kc_X7_110 : ks_CS RX7 110 yX7_isEdge cX7_isEdge 1 (some .boolean) 1 := ⟨kb_X7_isEdge, Or.inl (ks_mg 849 (by decide +kernel) rfl), ks_mg 850 (by decide +kernel) rfl⟩
set_option maxRecDepth 100000 in
theorem kc_X7_113 : ks_CV RX7 113 yX7_strandsAt cX7_strandsAt 5 (some .int) 2 := ⟨kb_X7_strandsAt, ks_mg 853 (by decide +kernel) rfl, ks_mg 855 (by decide +kernel) rfl, ks_mg 42 (by decide +kernel) rfl⟩
set_option maxRecDepth 100000 in
theorem kc_X7_150 : ks_CV RX7 150 yX7_snips cX7_snips 5 (some .int) 2 := ⟨kb_X7_snips, ks_mg 857 (by decide +kernel) rfl, ks_mg 859 (by decide +kernel) rfl, ks_mg 43 (by decide +kernel) rfl⟩
set_option maxRecDepth 100000 in
theorem kc_L_39 : ks_CV RL 39 yX7_plan cX7_plan 5 (some .int) 3 := ⟨kb_X7_plan, ks_mg 861 (by decide +kernel) rfl, ks_mg 862 (by decide +kernel) rfl, ks_mg 863 (by decide +kernel) rfl⟩
set_option maxRecDepth 100000 in
theorem kc_X7_153 : ks_CV RX7 153 yX7_planError cX7_planError 4 (some .int) 3 := ⟨kb_X7_planError, ks_mg 865 (by decide +kernel) rfl, ks_mg 867 (by decide +kernel) rfl, ks_mg 44 (by decide +kernel) rfl⟩
set_option maxRecDepth 100000 in
theorem kc_X7_156 : ks_CV RX7 156 yX7_plans cX7_plans 7 (some .int) 3 := ⟨kb_X7_plans, ks_mg 870 (by decide +kernel) rfl, ks_mg 872 (by decide +kernel) rfl, ks_mg 45 (by decide +kernel) rfl⟩
set_option maxRecDepth 100000 in
theorem kc_X7_87 : ks_CS RX7 87 yX7_planAt cX7_planAt 2 (some .int) 2 := ⟨kb_X7_planAt, Or.inl (ks_mg 874 (by decide +kernel) rfl), ks_mg 875 (by decide +kernel) rfl⟩
set_option maxRecDepth 100000 in
theorem kc_L_43 : ks_CV RL 43 yX7_pass cX7_pass 3 (some .int) 1 := ⟨kb_X7_pass, ks_mg 877 (by decide +kernel) rfl, ks_mg 878 (by decide +kernel) rfl, ks_mg 879 (by decide +kernel) rfl⟩
set_option maxRecDepth 100000 in
theorem kc_X7_159 : ks_CV RX7 159 yX7_passError cX7_passError 2 (some .int) 1 := ⟨kb_X7_passError, ks_mg 881 (by decide +kernel) rfl, ks_mg 883 (by decide +kernel) rfl, ks_mg 46 (by decide +kernel) rfl⟩
set_option maxRecDepth 100000 in
theorem kc_X7_162 : ks_CV RX7 162 yX7_turns cX7_turns 5 (some .int) 2 := ⟨kb_X7_turns, ks_mg 885 (by decide +kernel) rfl, ks_mg 887 (by decide +kernel) rfl, ks_mg 47 (by decide +kernel) rfl⟩
set_option maxRecDepth 100000 in
theorem kc_X7_96 : ks_CV RX7 96 yX7_turn cX7_turn 8 (some .int) 1 := ⟨kb_X7_turn, ks_mg 889 (by decide +kernel) rfl, ks_mg 891 (by decide +kernel) rfl, ks_mg 48 (by decide +kernel) rfl⟩
set_option maxRecDepth 100000 in
theorem kc_L_47 : ks_CV RL 47 yX7_of cX7_of 4 (some .int) 2 := ⟨kb_X7_of, ks_mg 893 (by decide +kernel) rfl, ks_mg 894 (by decide +kernel) rfl, ks_mg 895 (by decide +kernel) rfl⟩
set_option maxRecDepth 100000 in
theorem kc_X7_165 : ks_CV RX7 165 yX7_strandsOf cX7_strandsOf 4 (some .int) 1 := ⟨kb_X7_strandsOf, ks_mg 897 (by decide +kernel) rfl, ks_mg 899 (by decide +kernel) rfl, ks_mg 49 (by decide +kernel) rfl⟩
set_option maxRecDepth 100000 in
theorem kc_X7_168 : ks_CV RX7 168 yX7_stepsOf cX7_stepsOf 4 (some .int) 1 := ⟨kb_X7_stepsOf, ks_mg 901 (by decide +kernel) rfl, ks_mg 903 (by decide +kernel) rfl, ks_mg 50 (by decide +kernel) rfl⟩
set_option maxRecDepth 100000 in
theorem kc_L_51 : ks_CV RL 51 yX7_ofEdge cX7_ofEdge 3 (some .int) 2 := ⟨kb_X7_ofEdge, ks_mg 905 (by decide +kernel) rfl, ks_mg 906 (by decide +kernel) rfl, ks_mg 907 (by decide +kernel) rfl⟩
set_option maxRecDepth 100000 in
theorem kc_X7_171 : ks_CV RX7 171 yX7_thickness cX7_thickness 4 (some .int) 1 := ⟨kb_X7_thickness, ks_mg 909 (by decide +kernel) rfl, ks_mg 911 (by decide +kernel) rfl, ks_mg 51 (by decide +kernel) rfl⟩
set_option maxRecDepth 100000 in
theorem kc_X7_174 : ks_CV RX7 174 yX7_kittensAt cX7_kittensAt 4 (some .int) 1 := ⟨kb_X7_kittensAt, ks_mg 913 (by decide +kernel) rfl, ks_mg 915 (by decide +kernel) rfl, ks_mg 52 (by decide +kernel) rfl⟩
set_option maxRecDepth 100000 in
theorem kc_X7_177 : ks_CV RX7 177 yX7_pairsAt cX7_pairsAt 4 (some .int) 1 := ⟨kb_X7_pairsAt, ks_mg 917 (by decide +kernel) rfl, ks_mg 919 (by decide +kernel) rfl, ks_mg 53 (by decide +kernel) rfl⟩
set_option maxRecDepth 100000 in
theorem kc_L_55 : ks_CV RL 55 yX7_strand cX7_strand 5 (some .int) 2 := ⟨kb_X7_strand, ks_mg 921 (by decide +kernel) rfl, ks_mg 922 (by decide +kernel) rfl, ks_mg 923 (by decide +kernel) rfl⟩
set_option maxRecDepth 100000 in
theorem kc_L_59 : ks_CV RL 59 yX7_bound cX7_bound 3 (some .int) 2 := ⟨kb_X7_bound, ks_mg 925 (by decide +kernel) rfl, ks_mg 926 (by decide +kernel) rfl, ks_mg 927 (by decide +kernel) rfl⟩
set_option maxRecDepth 100000 in
theorem kc_L_63 : ks_CV RL 63 yX7_planned cX7_planned 3 (some .int) 2 := ⟨kb_X7_planned, ks_mg 929 (by decide +kernel) rfl, ks_mg 930 (by decide +kernel) rfl, ks_mg 931 (by decide +kernel) rfl⟩
set_option maxRecDepth 100000 in
theorem kc_L_67 : ks_CV RL 67 yX7_count cX7_count 2 (some .int) 1 := ⟨kb_X7_count, ks_mg 933 (by decide +kernel) rfl, ks_mg 934 (by decide +kernel) rfl, ks_mg 935 (by decide +kernel) rfl⟩
set_option maxRecDepth 100000 in
theorem kc_X7_183 : ks_CV RX7 183 yX7_napping cX7_napping 3 (some .int) 0 := ⟨kb_X7_napping, ks_mg 937 (by decide +kernel) rfl, ks_mg 939 (by decide +kernel) rfl, ks_mg 54 (by decide +kernel) rfl⟩
set_option maxRecDepth 100000 in
theorem kc_X7_187 : ks_CV RX7 187 yX7_all cX7_all 4 (some .int) 1 := ⟨kb_X7_all, ks_mg 941 (by decide +kernel) rfl, ks_mg 943 (by decide +kernel) rfl, ks_mg 55 (by decide +kernel) rfl⟩
set_option maxRecDepth 100000 in
theorem kc_X7_190 : ks_CV RX7 190 yX7_pairs cX7_pairs 3 (some .int) 0 := ⟨kb_X7_pairs, ks_mg 945 (by decide +kernel) rfl, ks_mg 947 (by decide +kernel) rfl, ks_mg 56 (by decide +kernel) rfl⟩
set_option maxRecDepth 100000 in
theorem kc_X7_180 : ks_CS RX7 180 yX7_ones cX7_ones 3 (some .int) 1 := ⟨kb_X7_ones, Or.inl (ks_mg 949 (by decide +kernel) rfl), ks_mg 950 (by decide +kernel) rfl⟩
set_option maxRecDepth 100000 in
theorem kc_L_71 : ks_CV RL 71 yX7_why cX7_why 3 (some .int) 2 := ⟨kb_X7_why, ks_mg 952 (by decide +kernel) rfl, ks_mg 953 (by decide +kernel) rfl, ks_mg 954 (by decide +kernel) rfl⟩
set_option maxRecDepth 100000 in
theorem kc_L_75 : ks_CV RL 75 yX7_ifLeapt cX7_ifLeapt 9 (some .int) 3 := ⟨kb_X7_ifLeapt, ks_mg 956 (by decide +kernel) rfl, ks_mg 957 (by decide +kernel) rfl, ks_mg 958 (by decide +kernel) rfl⟩
set_option maxRecDepth 100000 in
theorem kc_L_79 : ks_CV RL 79 yX7_frees cX7_frees 7 (some .int) 2 := ⟨kb_X7_frees, ks_mg 961 (by decide +kernel) rfl, ks_mg 962 (by decide +kernel) rfl, ks_mg 963 (by decide +kernel) rfl⟩
set_option maxRecDepth 100000 in
theorem kc_X7_198 : ks_CV RX7 198 yX7_sorting cX7_sorting 8 (some .int) 3 := ⟨kb_X7_sorting, ks_mg 965 (by decide +kernel) rfl, ks_mg 967 (by decide +kernel) rfl, ks_mg 57 (by decide +kernel) rfl⟩
set_option maxRecDepth 100000 in
theorem kc_L_84 : ks_CV RL 84 yX7_quietIn cX7_quietIn 3 (some .int) 0 := ⟨kb_X7_quietIn, ks_mg 969 (by decide +kernel) rfl, ks_mg 970 (by decide +kernel) rfl, ks_mg 971 (by decide +kernel) rfl⟩
set_option maxRecDepth 100000 in
theorem kc_L_88 : ks_CV RL 88 yX7_stepIn cX7_stepIn 4 (some .int) 2 := ⟨kb_X7_stepIn, ks_mg 973 (by decide +kernel) rfl, ks_mg 974 (by decide +kernel) rfl, ks_mg 975 (by decide +kernel) rfl⟩
set_option maxRecDepth 100000 in
theorem kc_L_92 : ks_CV RL 92 yX7_thickest cX7_thickest 5 (some .int) 0 := ⟨kb_X7_thickest, ks_mg 977 (by decide +kernel) rfl, ks_mg 978 (by decide +kernel) rfl, ks_mg 979 (by decide +kernel) rfl⟩
set_option maxRecDepth 100000 in
theorem kc_L_99 : ks_CV RL 99 yX7_put cX7_put 5 (some .int) 1 := ⟨kb_X7_put, ks_mg 981 (by decide +kernel) rfl, ks_mg 982 (by decide +kernel) rfl, ks_mg 983 (by decide +kernel) rfl⟩
set_option maxRecDepth 100000 in
theorem kc_X7_207 : ks_CS RX7 207 yX7_charactersOf cX7_charactersOf 5 (some .int) 1 := ⟨kb_X7_charactersOf, Or.inl (ks_mg 985 (by decide +kernel) rfl), ks_mg 986 (by decide +kernel) rfl⟩
set_option maxRecDepth 100000 in
theorem kc_L_103 : ks_CV RL 103 yX7_wipe cX7_wipe 2 (some .int) 0 := ⟨kb_X7_wipe, ks_mg 991 (by decide +kernel) rfl, ks_mg 992 (by decide +kernel) rfl, ks_mg 993 (by decide +kernel) rfl⟩
set_option maxRecDepth 100000 in
theorem kc_L_107 : ks_CV RL 107 yX7_fault cX7_fault 2 (some .int) 0 := ⟨kb_X7_fault, ks_mg 995 (by decide +kernel) rfl, ks_mg 996 (by decide +kernel) rfl, ks_mg 997 (by decide +kernel) rfl⟩
set_option maxRecDepth 100000 in
theorem kc_X7_249 : ks_CV RX7 249 yX7_readsOrder cX7_readsOrder 1 (some .boolean) 0 := ⟨kb_X7_readsOrder, ks_mg 999 (by decide +kernel) rfl, ks_mg 1001 (by decide +kernel) rfl, ks_mg 58 (by decide +kernel) rfl⟩
set_option maxRecDepth 100000 in
theorem kc_X7_239 : ks_CV RX7 239 yX7_readsNumber cX7_readsNumber 1 (some .boolean) 0 := ⟨kb_X7_readsNumber, ks_mg 1003 (by decide +kernel) rfl, ks_mg 1005 (by decide +kernel) rfl, ks_mg 59 (by decide +kernel) rfl⟩
set_option maxRecDepth 100000 in
theorem kc_X7_223 : ks_CV RX7 223 yX7_number cX7_number 2 (some .int) 0 := ⟨kb_X7_number, ks_mg 1007 (by decide +kernel) rfl, ks_mg 1009 (by decide +kernel) rfl, ks_mg 60 (by decide +kernel) rfl⟩
set_option maxRecDepth 100000 in
theorem kc_X7_217 : ks_CV RX7 217 yX7_digit cX7_digit 2 (some .int) 0 := ⟨kb_X7_digit, ks_mg 1011 (by decide +kernel) rfl, ks_mg 1013 (by decide +kernel) rfl, ks_mg 61 (by decide +kernel) rfl⟩
set_option maxRecDepth 100000 in
theorem kc_X7_214 : ks_CV RX7 214 yX7_isHere cX7_isHere 3 (some .boolean) 2 := ⟨kb_X7_isHere, ks_mg 1015 (by decide +kernel) rfl, ks_mg 1017 (by decide +kernel) rfl, ks_mg 62 (by decide +kernel) rfl⟩
set_option maxRecDepth 100000 in
theorem kc_X7_243 : ks_CV RX7 243 yX7_readsKitten cX7_readsKitten 1 (some .boolean) 0 := ⟨kb_X7_readsKitten, ks_mg 1019 (by decide +kernel) rfl, ks_mg 1021 (by decide +kernel) rfl, ks_mg 63 (by decide +kernel) rfl⟩
set_option maxRecDepth 100000 in
theorem kc_X7_246 : ks_CV RX7 246 yX7_readsBy cX7_readsBy 3 (some .boolean) 0 := ⟨kb_X7_readsBy, ks_mg 1023 (by decide +kernel) rfl, ks_mg 1025 (by decide +kernel) rfl, ks_mg 64 (by decide +kernel) rfl⟩
set_option maxRecDepth 100000 in
theorem kc_X7_220 : ks_CV RX7 220 yX7_takes cX7_takes 3 (some .boolean) 1 := ⟨kb_X7_takes, ks_mg 1027 (by decide +kernel) rfl, ks_mg 1029 (by decide +kernel) rfl, ks_mg 65 (by decide +kernel) rfl⟩
set_option maxRecDepth 100000 in
theorem kc_L_111 : ks_CV RL 111 yX7_carryOut cX7_carryOut 5 (some .int) 0 := ⟨kb_X7_carryOut, ks_mg 1031 (by decide +kernel) rfl, ks_mg 1032 (by decide +kernel) rfl, ks_mg 1033 (by decide +kernel) rfl⟩
set_option maxRecDepth 100000 in
theorem kc_X7_252 : ks_CV RX7 252 yX7_fault cX7_fault 2 (some .int) 0 := ⟨kb_X7_fault, ks_mg 1035 (by decide +kernel) rfl, ks_mg 996 (by decide +kernel) rfl, ks_mg 997 (by decide +kernel) rfl⟩
set_option maxRecDepth 100000 in
theorem kc_X7_255 : ks_CV RX7 255 yX7_orderError cX7_orderError 1 (some .int) 0 := ⟨kb_X7_orderError, ks_mg 1036 (by decide +kernel) rfl, ks_mg 1038 (by decide +kernel) rfl, ks_mg 66 (by decide +kernel) rfl⟩
set_option maxRecDepth 100000 in
theorem kc_X7_258 : ks_CV RX7 258 yX7_does cX7_does 1 (some .int) 0 := ⟨kb_X7_does, ks_mg 1040 (by decide +kernel) rfl, ks_mg 1042 (by decide +kernel) rfl, ks_mg 67 (by decide +kernel) rfl⟩
set_option maxRecDepth 100000 in
theorem kc_L_115 : ks_CV RL 115 yX7_undo cX7_undo 1 (some .int) 0 := ⟨kb_X7_undo, ks_mg 1044 (by decide +kernel) rfl, ks_mg 1045 (by decide +kernel) rfl, ks_mg 1046 (by decide +kernel) rfl⟩
set_option maxRecDepth 100000 in
theorem kc_L_119 : ks_CV RL 119 yX7_save cX7_save 2 (some .int) 1 := ⟨kb_X7_save, ks_mg 1048 (by decide +kernel) rfl, ks_mg 1049 (by decide +kernel) rfl, ks_mg 1050 (by decide +kernel) rfl⟩
set_option maxRecDepth 100000 in
theorem kc_X7_261 : ks_CS RX7 261 yX7_isSlot cX7_isSlot 1 (some .boolean) 1 := ⟨kb_X7_isSlot, Or.inl (ks_mg 1052 (by decide +kernel) rfl), ks_mg 1053 (by decide +kernel) rfl⟩
set_option maxRecDepth 100000 in
theorem kc_L_123 : ks_CV RL 123 yX7_restore cX7_restore 2 (some .int) 1 := ⟨kb_X7_restore, ks_mg 1055 (by decide +kernel) rfl, ks_mg 1056 (by decide +kernel) rfl, ks_mg 1057 (by decide +kernel) rfl⟩
set_option maxRecDepth 100000 in
theorem kw_L_7 : Cond.classLink RL 7 RX6 ∈ lw_g := ks_mg 79 (by decide +kernel) rfl
set_option maxRecDepth 100000 in
theorem kn_L_7 : ks_New RL 7 6 [.null, .null, .null, .null, .null, .null] := ⟨RX6, TX6, 6, tyX6, kcl_6, kw_L_7, ks_mg 80 (by decide +kernel) rfl, ks_mg 69 (by decide +kernel) rfl, (by decide +kernel : ∀ j, j < 6 → defaultValue (tyX6 j) = vp_V [.null, .null, .null, .null, .null, .null] j), rfl⟩
set_option maxRecDepth 100000 in
theorem kw_X6_9 : Cond.classLink RX6 9 RX4 ∈ lw_g := ks_mg 87 (by decide +kernel) rfl
set_option maxRecDepth 100000 in
theorem kn_X6_9 : ks_New RX6 9 4 [.null, .int 0, .int 0, .int 0, .int 0, .null, .null, .null, .null, .null, .null, .null, .null, .null] := ⟨RX4, TX4, 14, tyX4, kcl_4, kw_X6_9, ks_mg 88 (by decide +kernel) rfl, ks_mg 70 (by decide +kernel) rfl, (by decide +kernel : ∀ j, j < 14 → defaultValue (tyX4 j) = vp_V [.null, .int 0, .int 0, .int 0, .int 0, .null, .null, .null, .null, .null, .null, .null, .null, .null] j), rfl⟩
set_option maxRecDepth 100000 in
theorem kw_X4_49 : Cond.classLink RX4 49 RX5 ∈ lw_g := ks_mg 93 (by decide +kernel) rfl
set_option maxRecDepth 100000 in
theorem kn_X4_49 : ks_New RX4 49 5 [.null, .null, .int 0] := ⟨RX5, TX5, 3, tyX5, kcl_5, kw_X4_49, ks_mg 94 (by decide +kernel) rfl, ks_mg 71 (by decide +kernel) rfl, (by decide +kernel : ∀ j, j < 3 → defaultValue (tyX5 j) = vp_V [.null, .null, .int 0] j), rfl⟩
set_option maxRecDepth 100000 in
theorem kw_X4_56 : Cond.classLink RX4 56 RX3 ∈ lw_g := ks_mg 111 (by decide +kernel) rfl
set_option maxRecDepth 100000 in
theorem kn_X4_56 : ks_New RX4 56 3 [.null, .null, .null, .int 0] := ⟨RX3, TX3, 4, tyX3, kcl_3, kw_X4_56, ks_mg 112 (by decide +kernel) rfl, ks_mg 72 (by decide +kernel) rfl, (by decide +kernel : ∀ j, j < 4 → defaultValue (tyX3 j) = vp_V [.null, .null, .null, .int 0] j), rfl⟩
set_option maxRecDepth 100000 in
theorem kw_X6_19 : Cond.classLink RX6 19 RX0 ∈ lw_g := ks_mg 199 (by decide +kernel) rfl
set_option maxRecDepth 100000 in
theorem kn_X6_19 : ks_New RX6 19 0 [.null, .int 0, .int 0] := ⟨RX0, TX0, 3, tyX0, kcl_0, kw_X6_19, ks_mg 200 (by decide +kernel) rfl, ks_mg 74 (by decide +kernel) rfl, (by decide +kernel : ∀ j, j < 3 → defaultValue (tyX0 j) = vp_V [.null, .int 0, .int 0] j), rfl⟩
set_option maxRecDepth 100000 in
theorem kw_X0_11 : Cond.classLink RX0 11 RX4 ∈ lw_g := ks_mg 205 (by decide +kernel) rfl
set_option maxRecDepth 100000 in
theorem kn_X0_11 : ks_New RX0 11 4 [.null, .int 0, .int 0, .int 0, .int 0, .null, .null, .null, .null, .null, .null, .null, .null, .null] := ⟨RX4, TX4, 14, tyX4, kcl_4, kw_X0_11, ks_mg 88 (by decide +kernel) rfl, ks_mg 70 (by decide +kernel) rfl, (by decide +kernel : ∀ j, j < 14 → defaultValue (tyX4 j) = vp_V [.null, .int 0, .int 0, .int 0, .int 0, .null, .null, .null, .null, .null, .null, .null, .null, .null] j), rfl⟩
set_option maxRecDepth 100000 in
theorem kw_X6_30 : Cond.classLink RX6 30 RX2 ∈ lw_g := ks_mg 218 (by decide +kernel) rfl
set_option maxRecDepth 100000 in
theorem kn_X6_30 : ks_New RX6 30 2 [.null, .int 0] := ⟨RX2, TX2, 2, tyX2, kcl_2, kw_X6_30, ks_mg 219 (by decide +kernel) rfl, ks_mg 75 (by decide +kernel) rfl, (by decide +kernel : ∀ j, j < 2 → defaultValue (tyX2 j) = vp_V [.null, .int 0] j), rfl⟩
set_option maxRecDepth 100000 in
theorem kw_X6_37 : Cond.classLink RX6 37 RX1 ∈ lw_g := ks_mg 233 (by decide +kernel) rfl
set_option maxRecDepth 100000 in
theorem kn_X6_37 : ks_New RX6 37 1 [.null, .null, .int 0, .int 0] := ⟨RX1, TX1, 4, tyX1, kcl_1, kw_X6_37, ks_mg 234 (by decide +kernel) rfl, ks_mg 76 (by decide +kernel) rfl, (by decide +kernel : ∀ j, j < 4 → defaultValue (tyX1 j) = vp_V [.null, .null, .int 0, .int 0] j), rfl⟩
set_option maxRecDepth 100000 in
theorem kw_L_10 : Cond.classLink RL 10 RX7 ∈ lw_g := ks_mg 675 (by decide +kernel) rfl
set_option maxRecDepth 100000 in
theorem kn_L_10 : ks_New RL 10 7 [.null, .int 0, .null, .null, .int 0, .int 0, .int 0, .int 0, .int 0, .int 0] := ⟨RX7, TX7, 10, tyX7, kcl_7, kw_L_10, ks_mg 676 (by decide +kernel) rfl, ks_mg 77 (by decide +kernel) rfl, (by decide +kernel : ∀ j, j < 10 → defaultValue (tyX7 j) = vp_V [.null, .int 0, .null, .null, .int 0, .int 0, .int 0, .int 0, .int 0, .int 0] j), rfl⟩
set_option maxRecDepth 100000 in
theorem kj_X6_3 : Cond.methodLink RX6 3 Lib.objectInit ∈ lw_g := ks_mg 84 (by decide +kernel) rfl
set_option maxRecDepth 100000 in
theorem kj_X4_3 : Cond.methodLink RX4 3 Lib.objectInit ∈ lw_g := ks_mg 92 (by decide +kernel) rfl
set_option maxRecDepth 100000 in
theorem kj_X5_3 : Cond.methodLink RX5 3 Lib.objectInit ∈ lw_g := ks_mg 98 (by decide +kernel) rfl
set_option maxRecDepth 100000 in
theorem kj_X3_3 : Cond.methodLink RX3 3 Lib.objectInit ∈ lw_g := ks_mg 116 (by decide +kernel) rfl
set_option maxRecDepth 100000 in
theorem kj_X4_66 : Cond.methodLink RX4 66 arraycopyName ∈ lw_g := ks_mg 139 (by decide +kernel) rfl
set_option maxRecDepth 100000 in
theorem kj_X0_3 : Cond.methodLink RX0 3 Lib.objectInit ∈ lw_g := ks_mg 204 (by decide +kernel) rfl
set_option maxRecDepth 100000 in
theorem kj_X2_3 : Cond.methodLink RX2 3 Lib.objectInit ∈ lw_g := ks_mg 223 (by decide +kernel) rfl
set_option maxRecDepth 100000 in
theorem kj_X1_3 : Cond.methodLink RX1 3 Lib.objectInit ∈ lw_g := ks_mg 238 (by decide +kernel) rfl
set_option maxRecDepth 100000 in
theorem kj_X5_22 : Cond.methodLink RX5 22 arraycopyName ∈ lw_g := ks_mg 291 (by decide +kernel) rfl
set_option maxRecDepth 100000 in
theorem kj_X3_25 : Cond.methodLink RX3 25 arraycopyName ∈ lw_g := ks_mg 296 (by decide +kernel) rfl
set_option maxRecDepth 100000 in
theorem kj_X4_148 : Cond.methodLink RX4 148 Lib.Math.abs.name ∈ lw_g := ks_mg 351 (by decide +kernel) rfl
set_option maxRecDepth 100000 in
theorem kj_X5_32 : Cond.methodLink RX5 32 Lib.Math.max.name ∈ lw_g := ks_mg 544 (by decide +kernel) rfl
set_option maxRecDepth 100000 in
theorem kj_X4_173 : Cond.methodLink RX4 173 Lib.Math.max.name ∈ lw_g := ks_mg 555 (by decide +kernel) rfl
set_option maxRecDepth 100000 in
theorem kj_X6_207 : Cond.methodLink RX6 207 Lib.Math.max.name ∈ lw_g := ks_mg 560 (by decide +kernel) rfl
set_option maxRecDepth 100000 in
theorem kl_X2_23 : Cond.constantLong RX2 23 (255) ∈ lw_g := ks_mg 581 (by decide +kernel) rfl
set_option maxRecDepth 100000 in
theorem kl_X2_25 : Cond.constantLong RX2 25 (33) ∈ lw_g := ks_mg 582 (by decide +kernel) rfl
set_option maxRecDepth 100000 in
theorem kl_X2_27 : Cond.constantLong RX2 27 (126) ∈ lw_g := ks_mg 583 (by decide +kernel) rfl
set_option maxRecDepth 100000 in
theorem kj_X7_1 : Cond.methodLink RX7 1 Lib.objectInit ∈ lw_g := ks_mg 680 (by decide +kernel) rfl
set_option maxRecDepth 100000 in
theorem kl_X7_118 : Cond.constantLong RX7 118 (8) ∈ lw_g := ks_mg 720 (by decide +kernel) rfl
set_option maxRecDepth 100000 in
theorem kl_X7_68 : Cond.constantLong RX7 68 (15) ∈ lw_g := ks_mg 724 (by decide +kernel) rfl
set_option maxRecDepth 100000 in
theorem kl_X7_120 : Cond.constantLong RX7 120 (30) ∈ lw_g := ks_mg 725 (by decide +kernel) rfl
set_option maxRecDepth 100000 in
theorem kl_X7_122 : Cond.constantLong RX7 122 (2) ∈ lw_g := ks_mg 726 (by decide +kernel) rfl
set_option maxRecDepth 100000 in
theorem kl_X7_124 : Cond.constantLong RX7 124 (60) ∈ lw_g := ks_mg 727 (by decide +kernel) rfl
set_option maxRecDepth 100000 in
theorem kl_X7_101 : Cond.constantLong RX7 101 (-15) ∈ lw_g := ks_mg 766 (by decide +kernel) rfl
set_option maxRecDepth 100000 in
theorem kl_X7_99 : Cond.constantLong RX7 99 (14) ∈ lw_g := ks_mg 852 (by decide +kernel) rfl
set_option maxRecDepth 100000 in
theorem kl_X7_116 : Cond.constantLong RX7 116 (99) ∈ lw_g := ks_mg 869 (by decide +kernel) rfl
set_option maxRecDepth 100000 in
theorem kl_X7_196 : Cond.constantLong RX7 196 (3) ∈ lw_g := ks_mg 960 (by decide +kernel) rfl
set_option maxRecDepth 100000 in
theorem kl_X7_201 : Cond.constantLong RX7 201 (255) ∈ lw_g := ks_mg 988 (by decide +kernel) rfl
set_option maxRecDepth 100000 in
theorem kl_X7_203 : Cond.constantLong RX7 203 (33) ∈ lw_g := ks_mg 989 (by decide +kernel) rfl
set_option maxRecDepth 100000 in
theorem kl_X7_205 : Cond.constantLong RX7 205 (126) ∈ lw_g := ks_mg 990 (by decide +kernel) rfl
set_option maxRecDepth 100000 in
theorem kl_L_93 : Cond.constantLong RL 93 (4294967295) ∈ lw_g := ks_mg 1059 (by decide +kernel) rfl
set_option maxRecDepth 100000 in
theorem ku_oi : Cond.instanceMethod Lib.objectInit ∈ lw_g := ks_mg 85 (by decide +kernel) rfl
set_option maxRecDepth 100000 in
theorem ku_oc : Cond.code Lib.objectInit ⟨#[0xb1]⟩ 1 none ∈ lw_g := ks_mg 86 (by decide +kernel) rfl
set_option maxRecDepth 100000 in
theorem ku_ai : Cond.arrayClass .int ∈ lw_g := ks_mg 110 (by decide +kernel) rfl
set_option maxRecDepth 100000 in
theorem ku_az : Cond.arrayClass .boolean ∈ lw_g := ks_mg 712 (by decide +kernel) rfl
set_option maxRecDepth 100000 in
theorem ku_cn : Cond.native arraycopyName ∈ lw_g := ks_mg 141 (by decide +kernel) rfl
set_option maxRecDepth 100000 in
theorem ku_cs : Cond.static arraycopyName ∈ lw_g := ks_mg 140 (by decide +kernel) rfl
set_option maxRecDepth 100000 in
theorem ku_ci : Cond.initialized "java/lang/System" ∈ lw_g := ks_mg 73 (by decide +kernel) rfl
set_option maxRecDepth 100000 in
theorem ku_mi : Cond.initialized "java/lang/Math" ∈ lw_g := ks_mg 78 (by decide +kernel) rfl
set_option maxRecDepth 100000 in
theorem ku_maxs : Cond.static Lib.Math.max.name ∈ lw_g := ks_mg 545 (by decide +kernel) rfl
set_option maxRecDepth 100000 in
theorem ku_maxc : Cond.code Lib.Math.max.name Lib.Math.max.code 2 (some .int) ∈ lw_g := ks_mg 546 (by decide +kernel) rfl
set_option maxRecDepth 100000 in
theorem ku_abss : Cond.static Lib.Math.abs.name ∈ lw_g := ks_mg 352 (by decide +kernel) rfl
set_option maxRecDepth 100000 in
theorem ku_absc : Cond.code Lib.Math.abs.name Lib.Math.abs.code 1 (some .int) ∈ lw_g := ks_mg 353 (by decide +kernel) rfl
