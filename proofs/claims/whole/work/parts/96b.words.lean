/-! ===== words of what is made ===== -/
theorem ar_int : Cond.arrayClass .int ∈ tb0 := tb1_of 51 rfl rfl
theorem ar_boolean : Cond.arrayClass .boolean ∈ tb0 := tb1_of 86 rfl rfl
theorem ar_long : Cond.arrayClass .long ∈ tb0 := tb2_of 61 rfl rfl
theorem inX11 : Cond.instantiable RX11 10 ∈ tb0 := tb1_of 23 rfl rfl
theorem izX11 : Cond.initialized RX11 ∈ tb0 := tb1_of 1 rfl rfl
theorem inX0 : Cond.instantiable RX0 13 ∈ tb0 := tb1_of 88 rfl rfl
theorem izX0 : Cond.initialized RX0 ∈ tb0 := tb1_of 5 rfl rfl
theorem inX1 : Cond.instantiable RX1 2 ∈ tb0 := tb1_of 157 rfl rfl
theorem izX1 : Cond.initialized RX1 ∈ tb0 := tb1_of 7 rfl rfl
theorem inX2 : Cond.instantiable RX2 3 ∈ tb0 := tb1_of 220 rfl rfl
theorem izX2 : Cond.initialized RX2 ∈ tb0 := tb1_of 11 rfl rfl
theorem inX3 : Cond.instantiable RX3 7 ∈ tb0 := tb2_of 32 rfl rfl
theorem izX3 : Cond.initialized RX3 ∈ tb0 := tb1_of 12 rfl rfl
theorem inX4 : Cond.instantiable RX4 7 ∈ tb0 := tb1_of 172 rfl rfl
theorem izX4 : Cond.initialized RX4 ∈ tb0 := tb1_of 8 rfl rfl
theorem inX5 : Cond.instantiable RX5 3 ∈ tb0 := tb1_of 31 rfl rfl
theorem izX5 : Cond.initialized RX5 ∈ tb0 := tb1_of 2 rfl rfl
theorem inX6 : Cond.instantiable RX6 2 ∈ tb0 := tb1_of 178 rfl rfl
theorem izX6 : Cond.initialized RX6 ∈ tb0 := tb1_of 9 rfl rfl
theorem inX7 : Cond.instantiable RX7 10 ∈ tb0 := tb1_of 213 rfl rfl
theorem izX7 : Cond.initialized RX7 ∈ tb0 := tb1_of 10 rfl rfl
theorem inX8 : Cond.instantiable RX8 5 ∈ tb0 := tb1_of 63 rfl rfl
theorem izX8 : Cond.initialized RX8 ∈ tb0 := tb1_of 4 rfl rfl
theorem inX9 : Cond.instantiable RX9 4 ∈ tb0 := tb1_of 138 rfl rfl
theorem izX9 : Cond.initialized RX9 ∈ tb0 := tb1_of 6 rfl rfl
theorem inX10 : Cond.instantiable RX10 2 ∈ tb0 := tb1_of 38 rfl rfl
theorem izX10 : Cond.initialized RX10 ∈ tb0 := tb1_of 3 rfl rfl
theorem inX12 : Cond.instantiable RX12 50 ∈ tb0 := tb6_of 200 rfl rfl
theorem izX12 : Cond.initialized RX12 ∈ tb0 := tb1_of 13 rfl rfl
theorem clX11_9 : Cond.classLink RX11 9 RX5 ∈ tb0 := tb1_of 30 rfl rfl
theorem clX11_16 : Cond.classLink RX11 16 RX8 ∈ tb0 := tb1_of 62 rfl rfl
theorem clX11_23 : Cond.classLink RX11 23 RX0 ∈ tb0 := tb1_of 87 rfl rfl
theorem clX11_30 : Cond.classLink RX11 30 RX9 ∈ tb0 := tb1_of 137 rfl rfl
theorem clX11_37 : Cond.classLink RX11 37 RX1 ∈ tb0 := tb1_of 156 rfl rfl
theorem clX11_44 : Cond.classLink RX11 44 RX4 ∈ tb0 := tb1_of 171 rfl rfl
theorem clX11_51 : Cond.classLink RX11 51 RX7 ∈ tb0 := tb1_of 212 rfl rfl
theorem clX11_58 : Cond.classLink RX11 58 RX3 ∈ tb0 := tb2_of 31 rfl rfl
theorem clX1_9 : Cond.classLink RX1 9 RX10 ∈ tb0 := tb1_of 162 rfl rfl
theorem clX2_9 : Cond.classLink RX2 9 RX10 ∈ tb0 := tb1_of 225 rfl rfl
theorem clX3_28 : Cond.classLink RX3 28 RX6 ∈ tb0 := tb2_of 37 rfl rfl
theorem clX4_28 : Cond.classLink RX4 28 RX6 ∈ tb0 := tb1_of 177 rfl rfl
theorem clX5_9 : Cond.classLink RX5 9 RX10 ∈ tb0 := tb1_of 36 rfl rfl
theorem clX7_9 : Cond.classLink RX7 9 RX2 ∈ tb0 := tb1_of 218 rfl rfl
theorem clX7_22 : Cond.classLink RX7 22 RX6 ∈ tb0 := tb1_of 238 rfl rfl
theorem clX8_9 : Cond.classLink RX8 9 RX10 ∈ tb0 := tb1_of 68 rfl rfl
theorem clL_8 : Cond.classLink RL 8 RX11 ∈ tb0 := tb1_of 22 rfl rfl
theorem clL_131 : Cond.classLink RL 131 RX12 ∈ tb0 := tb6_of 199 rfl rfl
theorem olX11_3 : Cond.methodLink RX11 3 Lib.objectInit ∈ tb0 := tb1_of 27 rfl rfl
theorem olX0_3 : Cond.methodLink RX0 3 Lib.objectInit ∈ tb0 := tb1_of 92 rfl rfl
theorem olX1_3 : Cond.methodLink RX1 3 Lib.objectInit ∈ tb0 := tb1_of 161 rfl rfl
theorem olX2_3 : Cond.methodLink RX2 3 Lib.objectInit ∈ tb0 := tb1_of 224 rfl rfl
theorem olX3_3 : Cond.methodLink RX3 3 Lib.objectInit ∈ tb0 := tb2_of 36 rfl rfl
theorem olX4_3 : Cond.methodLink RX4 3 Lib.objectInit ∈ tb0 := tb1_of 176 rfl rfl
theorem olX5_3 : Cond.methodLink RX5 3 Lib.objectInit ∈ tb0 := tb1_of 35 rfl rfl
theorem olX6_3 : Cond.methodLink RX6 3 Lib.objectInit ∈ tb0 := tb1_of 182 rfl rfl
theorem olX7_3 : Cond.methodLink RX7 3 Lib.objectInit ∈ tb0 := tb1_of 217 rfl rfl
theorem olX8_3 : Cond.methodLink RX8 3 Lib.objectInit ∈ tb0 := tb1_of 67 rfl rfl
theorem olX9_3 : Cond.methodLink RX9 3 Lib.objectInit ∈ tb0 := tb1_of 142 rfl rfl
theorem olX10_3 : Cond.methodLink RX10 3 Lib.objectInit ∈ tb0 := tb1_of 42 rfl rfl
theorem olX12_1 : Cond.methodLink RX12 1 Lib.objectInit ∈ tb0 := tb6_of 204 rfl rfl
theorem oinst : Cond.instanceMethod Lib.objectInit ∈ tb0 := tb1_of 28 rfl rfl
theorem ocode : Cond.code Lib.objectInit ⟨#[0xb1]⟩ 1 none ∈ tb0 := tb1_of 29 rfl rfl
abbrev fr0 : List (Option (Option Nat)) := [some none, some none, some none, some none, some none, some none, some none, none, none, none, none, none, none]
theorem df0 : ∀ (base j : Nat), j < 13 → defaultValue (tyX0 j) = vp_V (x_obj base fr0 (fun _ => 0)) j := fun base j hj => by
  rcases (show j = 0 ∨ j = 1 ∨ j = 2 ∨ j = 3 ∨ j = 4 ∨ j = 5 ∨ j = 6 ∨ j = 7 ∨ j = 8 ∨ j = 9 ∨ j = 10 ∨ j = 11 ∨ j = 12 by omega) with rfl | rfl | rfl | rfl | rfl | rfl | rfl | rfl | rfl | rfl | rfl | rfl | rfl <;> rfl
abbrev fr1 : List (Option (Option Nat)) := [some none, some none]
theorem df1 : ∀ (base j : Nat), j < 2 → defaultValue (tyX1 j) = vp_V (x_obj base fr1 (fun _ => 0)) j := fun base j hj => by
  rcases (show j = 0 ∨ j = 1 by omega) with rfl | rfl <;> rfl
abbrev fr2 : List (Option (Option Nat)) := [some none, none, none]
theorem df2 : ∀ (base j : Nat), j < 3 → defaultValue (tyX2 j) = vp_V (x_obj base fr2 (fun _ => 0)) j := fun base j hj => by
  rcases (show j = 0 ∨ j = 1 ∨ j = 2 by omega) with rfl | rfl | rfl <;> rfl
abbrev fr3 : List (Option (Option Nat)) := [some none, some none, some none, some none, some none, some none, none]
theorem df3 : ∀ (base j : Nat), j < 7 → defaultValue (tyX3 j) = vp_V (x_obj base fr3 (fun _ => 0)) j := fun base j hj => by
  rcases (show j = 0 ∨ j = 1 ∨ j = 2 ∨ j = 3 ∨ j = 4 ∨ j = 5 ∨ j = 6 by omega) with rfl | rfl | rfl | rfl | rfl | rfl | rfl <;> rfl
abbrev fr4 : List (Option (Option Nat)) := [some none, some none, some none, some none, some none, some none, none]
theorem df4 : ∀ (base j : Nat), j < 7 → defaultValue (tyX4 j) = vp_V (x_obj base fr4 (fun _ => 0)) j := fun base j hj => by
  rcases (show j = 0 ∨ j = 1 ∨ j = 2 ∨ j = 3 ∨ j = 4 ∨ j = 5 ∨ j = 6 by omega) with rfl | rfl | rfl | rfl | rfl | rfl | rfl <;> rfl
abbrev fr5 : List (Option (Option Nat)) := [some none, some none, none]
theorem df5 : ∀ (base j : Nat), j < 3 → defaultValue (tyX5 j) = vp_V (x_obj base fr5 (fun _ => 0)) j := fun base j hj => by
  rcases (show j = 0 ∨ j = 1 ∨ j = 2 by omega) with rfl | rfl | rfl <;> rfl
abbrev fr6 : List (Option (Option Nat)) := [some none, none]
theorem df6 : ∀ (base j : Nat), j < 2 → defaultValue (tyX6 j) = vp_V (x_obj base fr6 (fun _ => 0)) j := fun base j hj => by
  rcases (show j = 0 ∨ j = 1 by omega) with rfl | rfl <;> rfl
abbrev fr7 : List (Option (Option Nat)) := [some none, some none, some none, some none, none, none, none, none, none, none]
theorem df7 : ∀ (base j : Nat), j < 10 → defaultValue (tyX7 j) = vp_V (x_obj base fr7 (fun _ => 0)) j := fun base j hj => by
  rcases (show j = 0 ∨ j = 1 ∨ j = 2 ∨ j = 3 ∨ j = 4 ∨ j = 5 ∨ j = 6 ∨ j = 7 ∨ j = 8 ∨ j = 9 by omega) with rfl | rfl | rfl | rfl | rfl | rfl | rfl | rfl | rfl | rfl <;> rfl
abbrev fr8 : List (Option (Option Nat)) := [some none, some none, some none, some none, none]
theorem df8 : ∀ (base j : Nat), j < 5 → defaultValue (tyX8 j) = vp_V (x_obj base fr8 (fun _ => 0)) j := fun base j hj => by
  rcases (show j = 0 ∨ j = 1 ∨ j = 2 ∨ j = 3 ∨ j = 4 by omega) with rfl | rfl | rfl | rfl | rfl <;> rfl
abbrev fr9 : List (Option (Option Nat)) := [some none, some none, some none, none]
theorem df9 : ∀ (base j : Nat), j < 4 → defaultValue (tyX9 j) = vp_V (x_obj base fr9 (fun _ => 0)) j := fun base j hj => by
  rcases (show j = 0 ∨ j = 1 ∨ j = 2 ∨ j = 3 by omega) with rfl | rfl | rfl | rfl <;> rfl
abbrev fr10 : List (Option (Option Nat)) := [some none, none]
theorem df10 : ∀ (base j : Nat), j < 2 → defaultValue (tyX10 j) = vp_V (x_obj base fr10 (fun _ => 0)) j := fun base j hj => by
  rcases (show j = 0 ∨ j = 1 by omega) with rfl | rfl <;> rfl
abbrev fr11 : List (Option (Option Nat)) := [some none, some none, some none, some none, some none, some none, some none, some none, none, none]
theorem df11 : ∀ (base j : Nat), j < 10 → defaultValue (tyX11 j) = vp_V (x_obj base fr11 (fun _ => 0)) j := fun base j hj => by
  rcases (show j = 0 ∨ j = 1 ∨ j = 2 ∨ j = 3 ∨ j = 4 ∨ j = 5 ∨ j = 6 ∨ j = 7 ∨ j = 8 ∨ j = 9 by omega) with rfl | rfl | rfl | rfl | rfl | rfl | rfl | rfl | rfl | rfl <;> rfl
abbrev fr12 : List (Option (Option Nat)) := [some none, some none, none, none, some none, none, some none, none, some none, some none, some none, some none, some none, some none, none, some none, some none, some none, none, some none, some none, none, some none, some none, none, none, none, some none, some none, none, none, none, some none, some none, some none, some none, some none, none, none, none, some none, none, some none, some none, some none, some none, none, none, some none, some none]
theorem df12 : ∀ (base j : Nat), j < 50 → defaultValue (tyX12 j) = vp_V (x_obj base fr12 (fun _ => 0)) j := fun base j hj => by
  rcases (show j = 0 ∨ j = 1 ∨ j = 2 ∨ j = 3 ∨ j = 4 ∨ j = 5 ∨ j = 6 ∨ j = 7 ∨ j = 8 ∨ j = 9 ∨ j = 10 ∨ j = 11 ∨ j = 12 ∨ j = 13 ∨ j = 14 ∨ j = 15 ∨ j = 16 ∨ j = 17 ∨ j = 18 ∨ j = 19 ∨ j = 20 ∨ j = 21 ∨ j = 22 ∨ j = 23 ∨ j = 24 ∨ j = 25 ∨ j = 26 ∨ j = 27 ∨ j = 28 ∨ j = 29 ∨ j = 30 ∨ j = 31 ∨ j = 32 ∨ j = 33 ∨ j = 34 ∨ j = 35 ∨ j = 36 ∨ j = 37 ∨ j = 38 ∨ j = 39 ∨ j = 40 ∨ j = 41 ∨ j = 42 ∨ j = 43 ∨ j = 44 ∨ j = 45 ∨ j = 46 ∨ j = 47 ∨ j = 48 ∨ j = 49 by omega) with rfl | rfl | rfl | rfl | rfl | rfl | rfl | rfl | rfl | rfl | rfl | rfl | rfl | rfl | rfl | rfl | rfl | rfl | rfl | rfl | rfl | rfl | rfl | rfl | rfl | rfl | rfl | rfl | rfl | rfl | rfl | rfl | rfl | rfl | rfl | rfl | rfl | rfl | rfl | rfl | rfl | rfl | rfl | rfl | rfl | rfl | rfl | rfl | rfl | rfl <;> rfl
