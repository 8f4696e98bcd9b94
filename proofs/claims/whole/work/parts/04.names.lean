def R_Dv : String := "WallFractions$Divider"
def F_Dv : u_T := fun k => match k with
  | 0 => ("WallFractions$Divider", "left", "[J", true)
  | _ => ("WallFractions$Divider", "by", "[J", true)
def t_Dv : Nat → FieldType := fun k => match k with
  | 0 => .array .long
  | _ => .array .long
theorem n_Dv : ∀ a, a < 2 → ∀ b, b < 2 → a ≠ b → (F_Dv a).2.1 ≠ (F_Dv b).2.1 := by decide +kernel
theorem t_Dv_ok : ∀ k, k < 2 → parseFieldDescriptor (F_Dv k).2.2.1 = some (t_Dv k) := by decide +kernel
theorem i_Dv : ∀ w ∈ u_ws R_Dv F_Dv 2, w ∈ TT := by
  intro w h
  obtain ⟨k, hk, rfl⟩ := List.mem_map.mp h
  have h9 := List.mem_range.mp hk
  match k, h9 with
  | 0, _ => exact w_81
  | 1, _ => exact w_83
  | n + 2, h => exact absurd h (by omega)
def R_Fr : String := "WallFractions$Fraction"
def F_Fr : u_T := fun k => match k with
  | 0 => ("WallFractions$Fraction", "above", "LWallFractions$Whole;", true)
  | 1 => ("WallFractions$Fraction", "below", "LWallFractions$Whole;", true)
  | _ => ("WallFractions$Fraction", "negative", "Z", false)
def t_Fr : Nat → FieldType := fun k => match k with
  | 0 => .object "WallFractions$Whole"
  | 1 => .object "WallFractions$Whole"
  | _ => .boolean
theorem n_Fr : ∀ a, a < 3 → ∀ b, b < 3 → a ≠ b → (F_Fr a).2.1 ≠ (F_Fr b).2.1 := by decide +kernel
theorem t_Fr_ok : ∀ k, k < 3 → parseFieldDescriptor (F_Fr k).2.2.1 = some (t_Fr k) := by decide +kernel
theorem i_Fr : ∀ w ∈ u_ws R_Fr F_Fr 3, w ∈ TT := by
  intro w h
  obtain ⟨k, hk, rfl⟩ := List.mem_map.mp h
  have h9 := List.mem_range.mp hk
  match k, h9 with
  | 0, _ => exact w_66
  | 1, _ => exact w_68
  | 2, _ => exact w_70
  | n + 3, h => exact absurd h (by omega)
def R_Ms : String := "WallFractions$Measure"
def F_Ms : u_T := fun k => match k with
  | 0 => ("WallFractions$Measure", "divider", "LWallFractions$Divider;", true)
  | 1 => ("WallFractions$Measure", "quotient", "LWallFractions$Whole;", true)
  | 2 => ("WallFractions$Measure", "greater", "LWallFractions$Whole;", false)
  | 3 => ("WallFractions$Measure", "lesser", "LWallFractions$Whole;", false)
  | 4 => ("WallFractions$Measure", "rest", "LWallFractions$Whole;", false)
  | 5 => ("WallFractions$Measure", "a", "J", false)
  | 6 => ("WallFractions$Measure", "b", "J", false)
  | 7 => ("WallFractions$Measure", "c", "J", false)
  | _ => ("WallFractions$Measure", "d", "J", false)
def t_Ms : Nat → FieldType := fun k => match k with
  | 0 => .object "WallFractions$Divider"
  | 1 => .object "WallFractions$Whole"
  | 2 => .object "WallFractions$Whole"
  | 3 => .object "WallFractions$Whole"
  | 4 => .object "WallFractions$Whole"
  | 5 => .long
  | 6 => .long
  | 7 => .long
  | _ => .long
theorem n_Ms : ∀ a, a < 9 → ∀ b, b < 9 → a ≠ b → (F_Ms a).2.1 ≠ (F_Ms b).2.1 := by decide +kernel
theorem t_Ms_ok : ∀ k, k < 9 → parseFieldDescriptor (F_Ms k).2.2.1 = some (t_Ms k) := by decide +kernel
theorem i_Ms : ∀ w ∈ u_ws R_Ms F_Ms 9, w ∈ TT := by
  intro w h
  obtain ⟨k, hk, rfl⟩ := List.mem_map.mp h
  have h9 := List.mem_range.mp hk
  match k, h9 with
  | 0, _ => exact w_109
  | 1, _ => exact w_111
  | 2, _ => exact w_113
  | 3, _ => exact w_115
  | 4, _ => exact w_117
  | 5, _ => exact w_119
  | 6, _ => exact w_121
  | 7, _ => exact w_123
  | 8, _ => exact w_125
  | n + 9, h => exact absurd h (by omega)
def R_Rk : String := "WallFractions$Reckoner"
def F_Rk : u_T := fun k => match k with
  | 0 => ("WallFractions$Reckoner", "divider", "LWallFractions$Divider;", true)
  | 1 => ("WallFractions$Reckoner", "measure", "LWallFractions$Measure;", true)
  | 2 => ("WallFractions$Reckoner", "out", "LWallFractions$Fraction;", true)
  | 3 => ("WallFractions$Reckoner", "left", "LWallFractions$Whole;", true)
  | 4 => ("WallFractions$Reckoner", "right", "LWallFractions$Whole;", true)
  | 5 => ("WallFractions$Reckoner", "quotient", "LWallFractions$Whole;", true)
  | _ => ("WallFractions$Reckoner", "rest", "LWallFractions$Whole;", true)
def t_Rk : Nat → FieldType := fun k => match k with
  | 0 => .object "WallFractions$Divider"
  | 1 => .object "WallFractions$Measure"
  | 2 => .object "WallFractions$Fraction"
  | 3 => .object "WallFractions$Whole"
  | 4 => .object "WallFractions$Whole"
  | 5 => .object "WallFractions$Whole"
  | _ => .object "WallFractions$Whole"
theorem n_Rk : ∀ a, a < 7 → ∀ b, b < 7 → a ≠ b → (F_Rk a).2.1 ≠ (F_Rk b).2.1 := by decide +kernel
theorem t_Rk_ok : ∀ k, k < 7 → parseFieldDescriptor (F_Rk k).2.2.1 = some (t_Rk k) := by decide +kernel
theorem i_Rk : ∀ w ∈ u_ws R_Rk F_Rk 7, w ∈ TT := by
  intro w h
  obtain ⟨k, hk, rfl⟩ := List.mem_map.mp h
  have h9 := List.mem_range.mp hk
  match k, h9 with
  | 0, _ => exact w_140
  | 1, _ => exact w_142
  | 2, _ => exact w_144
  | 3, _ => exact w_146
  | 4, _ => exact w_148
  | 5, _ => exact w_150
  | 6, _ => exact w_152
  | n + 7, h => exact absurd h (by omega)
def R_Sh : String := "WallFractions$Sharing"
def F_Sh : u_T := fun k => match k with
  | 0 => ("WallFractions$Sharing", "divider", "LWallFractions$Divider;", true)
  | 1 => ("WallFractions$Sharing", "weights", "[I", true)
  | 2 => ("WallFractions$Sharing", "rests", "[J", true)
  | 3 => ("WallFractions$Sharing", "sum", "LWallFractions$Whole;", true)
  | 4 => ("WallFractions$Sharing", "product", "LWallFractions$Whole;", true)
  | 5 => ("WallFractions$Sharing", "rest", "LWallFractions$Whole;", true)
  | _ => ("WallFractions$Sharing", "part", "LWallFractions$Whole;", true)
def t_Sh : Nat → FieldType := fun k => match k with
  | 0 => .object "WallFractions$Divider"
  | 1 => .array .int
  | 2 => .array .long
  | 3 => .object "WallFractions$Whole"
  | 4 => .object "WallFractions$Whole"
  | 5 => .object "WallFractions$Whole"
  | _ => .object "WallFractions$Whole"
theorem n_Sh : ∀ a, a < 7 → ∀ b, b < 7 → a ≠ b → (F_Sh a).2.1 ≠ (F_Sh b).2.1 := by decide +kernel
theorem t_Sh_ok : ∀ k, k < 7 → parseFieldDescriptor (F_Sh k).2.2.1 = some (t_Sh k) := by decide +kernel
theorem i_Sh : ∀ w ∈ u_ws R_Sh F_Sh 7, w ∈ TT := by
  intro w h
  obtain ⟨k, hk, rfl⟩ := List.mem_map.mp h
  have h9 := List.mem_range.mp hk
  match k, h9 with
  | 0, _ => exact w_170
  | 1, _ => exact w_172
  | 2, _ => exact w_174
  | 3, _ => exact w_176
  | 4, _ => exact w_178
  | 5, _ => exact w_180
  | 6, _ => exact w_182
  | n + 7, h => exact absurd h (by omega)
def R_Wh : String := "WallFractions$Whole"
def F_Wh : u_T := fun k => match k with
  | 0 => ("WallFractions$Whole", "limbs", "[J", true)
  | _ => ("WallFractions$Whole", "size", "I", false)
def t_Wh : Nat → FieldType := fun k => match k with
  | 0 => .array .long
  | _ => .int
theorem n_Wh : ∀ a, a < 2 → ∀ b, b < 2 → a ≠ b → (F_Wh a).2.1 ≠ (F_Wh b).2.1 := by decide +kernel
theorem t_Wh_ok : ∀ k, k < 2 → parseFieldDescriptor (F_Wh k).2.2.1 = some (t_Wh k) := by decide +kernel
theorem i_Wh : ∀ w ∈ u_ws R_Wh F_Wh 2, w ∈ TT := by
  intro w h
  obtain ⟨k, hk, rfl⟩ := List.mem_map.mp h
  have h9 := List.mem_range.mp hk
  match k, h9 with
  | 0, _ => exact w_46
  | 1, _ => exact w_48
  | n + 2, h => exact absurd h (by omega)
def R_Wf : String := "WallFractions"
def F_Wf : u_T := fun k => match k with
  | 0 => ("WallFractions", "registers", "[LWallFractions$Fraction;", true)
  | 1 => ("WallFractions", "reckoner", "LWallFractions$Reckoner;", true)
  | _ => ("WallFractions", "sharing", "LWallFractions$Sharing;", true)
def t_Wf : Nat → FieldType := fun k => match k with
  | 0 => .array (.object "WallFractions$Fraction")
  | 1 => .object "WallFractions$Reckoner"
  | _ => .object "WallFractions$Sharing"
theorem n_Wf : ∀ a, a < 3 → ∀ b, b < 3 → a ≠ b → (F_Wf a).2.1 ≠ (F_Wf b).2.1 := by decide +kernel
theorem t_Wf_ok : ∀ k, k < 3 → parseFieldDescriptor (F_Wf k).2.2.1 = some (t_Wf k) := by decide +kernel
theorem i_Wf : ∀ w ∈ u_ws R_Wf F_Wf 3, w ∈ TT := by
  intro w h
  obtain ⟨k, hk, rfl⟩ := List.mem_map.mp h
  have h9 := List.mem_range.mp hk
  match k, h9 with
  | 0, _ => exact w_189
  | 1, _ => exact w_191
  | 2, _ => exact w_193
  | n + 3, h => exact absurd h (by omega)
def R_Mo : String := "WallFractionsModel"
def F_Mo : u_T := fun k => match k with
  | 0 => ("WallFractionsModel", "thrown", "I", false)
  | 1 => ("WallFractionsModel", "cells", "[I", true)
  | 2 => ("WallFractionsModel", "lengths", "[I", true)
  | 3 => ("WallFractionsModel", "signs", "[I", true)
  | 4 => ("WallFractionsModel", "weights", "[I", true)
  | _ => ("WallFractionsModel", "rests", "[J", true)
def t_Mo : Nat → FieldType := fun k => match k with
  | 0 => .int
  | 1 => .array .int
  | 2 => .array .int
  | 3 => .array .int
  | 4 => .array .int
  | _ => .array .long
theorem n_Mo : ∀ a, a < 6 → ∀ b, b < 6 → a ≠ b → (F_Mo a).2.1 ≠ (F_Mo b).2.1 := by decide +kernel
theorem t_Mo_ok : ∀ k, k < 6 → parseFieldDescriptor (F_Mo k).2.2.1 = some (t_Mo k) := by decide +kernel
theorem i_Mo : ∀ w ∈ u_ws R_Mo F_Mo 6, w ∈ TT := by
  intro w h
  obtain ⟨k, hk, rfl⟩ := List.mem_map.mp h
  have h9 := List.mem_range.mp hk
  match k, h9 with
  | 0, _ => exact w_777
  | 1, _ => exact w_779
  | 2, _ => exact w_781
  | 3, _ => exact w_783
  | 4, _ => exact w_785
  | 5, _ => exact w_787
  | n + 6, h => exact absurd h (by omega)
/-- the kinds of objects -/
abbrev classes : List vw_C := [(R_Dv, F_Dv, 2), (R_Fr, F_Fr, 3), (R_Ms, F_Ms, 9), (R_Rk, F_Rk, 7), (R_Sh, F_Sh, 7), (R_Wh, F_Wh, 2), (R_Wf, F_Wf, 3), (R_Mo, F_Mo, 6)]
def R_La : String := "WallFractionsLaw"
def R_Mt : String := "java/lang/Math"
/-- what a call of a method leans on -/
def hw_mB (y : MethodName) (bytes : ByteArray) (maxL : Nat) (ret : Option FieldType) (n : Nat) : Prop := Cond.code y bytes maxL ret ∈ TT ∧ Cond.initialized y.cls ∈ TT ∧ y.cls ≠ "java/lang/invoke/MethodHandle" ∧ y.cls ≠ "java/lang/invoke/VarHandle" ∧ (parseMethodDescriptor y.desc).map (fun d => d.parameters.length) = some n
def hw_mV (y : MethodName) (bytes : ByteArray) (maxL : Nat) (ret : Option FieldType) (n : Nat) : Prop := hw_mB y bytes maxL ret n ∧ Cond.instanceMethod y ∈ TT ∧ Cond.selects y.cls y y ∈ TT
def hw_mS (y : MethodName) (bytes : ByteArray) (maxL : Nat) (ret : Option FieldType) (n : Nat) : Prop := hw_mB y bytes maxL ret n ∧ Cond.static y ∈ TT
def hw_mI (y : MethodName) (bytes : ByteArray) (maxL : Nat) (n : Nat) : Prop := hw_mB y bytes maxL none n ∧ y.name = "<init>" ∧ Cond.instanceMethod y ∈ TT
abbrev b_Wf_init : ByteArray := prog_1_method_1_code
def y_Wf_init : MethodName := ⟨R_Wf, "<init>", "()V"⟩
theorem m_Wf_init : hw_mI y_Wf_init b_Wf_init 2 0 := ⟨⟨w_22, w_1, by decide +kernel, by decide +kernel, by decide +kernel⟩, rfl, w_21⟩
abbrev b_Wf_set : ByteArray := prog_1_method_2_code
def y_Wf_set : MethodName := ⟨R_Wf, "set", "(IJJ)V"⟩
theorem m_Wf_set : hw_mV y_Wf_set b_Wf_set 6 none 3 := ⟨⟨w_204, w_1, by decide +kernel, by decide +kernel, by decide +kernel⟩, w_202, w_203⟩
abbrev b_Wf_more : ByteArray := prog_1_method_3_code
def y_Wf_more : MethodName := ⟨R_Wf, "more", "(II)V"⟩
theorem m_Wf_more : hw_mV y_Wf_more b_Wf_more 3 none 2 := ⟨⟨w_363, w_1, by decide +kernel, by decide +kernel, by decide +kernel⟩, w_361, w_362⟩
abbrev b_Wf_add : ByteArray := prog_1_method_4_code
def y_Wf_add : MethodName := ⟨R_Wf, "add", "(III)V"⟩
theorem m_Wf_add : hw_mV y_Wf_add b_Wf_add 4 none 3 := ⟨⟨w_399, w_1, by decide +kernel, by decide +kernel, by decide +kernel⟩, w_397, w_398⟩
abbrev b_Wf_subtract : ByteArray := prog_1_method_5_code
def y_Wf_subtract : MethodName := ⟨R_Wf, "subtract", "(III)V"⟩
theorem m_Wf_subtract : hw_mV y_Wf_subtract b_Wf_subtract 4 none 3 := ⟨⟨w_528, w_1, by decide +kernel, by decide +kernel, by decide +kernel⟩, w_526, w_527⟩
abbrev b_Wf_multiply : ByteArray := prog_1_method_6_code
def y_Wf_multiply : MethodName := ⟨R_Wf, "multiply", "(III)V"⟩
theorem m_Wf_multiply : hw_mV y_Wf_multiply b_Wf_multiply 4 none 3 := ⟨⟨w_535, w_1, by decide +kernel, by decide +kernel, by decide +kernel⟩, w_533, w_534⟩
abbrev b_Wf_divide : ByteArray := prog_1_method_7_code
def y_Wf_divide : MethodName := ⟨R_Wf, "divide", "(III)V"⟩
theorem m_Wf_divide : hw_mV y_Wf_divide b_Wf_divide 4 none 3 := ⟨⟨w_546, w_1, by decide +kernel, by decide +kernel, by decide +kernel⟩, w_544, w_545⟩
abbrev b_Wf_power : ByteArray := prog_1_method_8_code
def y_Wf_power : MethodName := ⟨R_Wf, "power", "(III)V"⟩
theorem m_Wf_power : hw_mV y_Wf_power b_Wf_power 4 none 3 := ⟨⟨w_555, w_1, by decide +kernel, by decide +kernel, by decide +kernel⟩, w_553, w_554⟩
abbrev b_Wf_binomial : ByteArray := prog_1_method_9_code
def y_Wf_binomial : MethodName := ⟨R_Wf, "binomial", "(III)V"⟩
theorem m_Wf_binomial : hw_mV y_Wf_binomial b_Wf_binomial 4 none 3 := ⟨⟨w_573, w_1, by decide +kernel, by decide +kernel, by decide +kernel⟩, w_571, w_572⟩
abbrev b_Wf_round : ByteArray := prog_1_method_10_code
def y_Wf_round : MethodName := ⟨R_Wf, "round", "(IIII)V"⟩
theorem m_Wf_round : hw_mV y_Wf_round b_Wf_round 5 none 4 := ⟨⟨w_589, w_1, by decide +kernel, by decide +kernel, by decide +kernel⟩, w_587, w_588⟩
abbrev b_Wf_root : ByteArray := prog_1_method_11_code
def y_Wf_root : MethodName := ⟨R_Wf, "root", "(III)V"⟩
theorem m_Wf_root : hw_mV y_Wf_root b_Wf_root 4 none 3 := ⟨⟨w_615, w_1, by decide +kernel, by decide +kernel, by decide +kernel⟩, w_613, w_614⟩
abbrev b_Wf_compare : ByteArray := prog_1_method_12_code
def y_Wf_compare : MethodName := ⟨R_Wf, "compare", "(II)I"⟩
theorem m_Wf_compare : hw_mV y_Wf_compare b_Wf_compare 3 (some .int) 2 := ⟨⟨w_637, w_1, by decide +kernel, by decide +kernel, by decide +kernel⟩, w_635, w_636⟩
abbrev b_Wf_sign : ByteArray := prog_1_method_13_code
def y_Wf_sign : MethodName := ⟨R_Wf, "sign", "(I)I"⟩
theorem m_Wf_sign : hw_mV y_Wf_sign b_Wf_sign 2 (some .int) 1 := ⟨⟨w_648, w_1, by decide +kernel, by decide +kernel, by decide +kernel⟩, w_646, w_647⟩
abbrev b_Wf_digits : ByteArray := prog_1_method_14_code
def y_Wf_digits : MethodName := ⟨R_Wf, "digits", "(II)I"⟩
theorem m_Wf_digits : hw_mV y_Wf_digits b_Wf_digits 3 (some .int) 2 := ⟨⟨w_660, w_1, by decide +kernel, by decide +kernel, by decide +kernel⟩, w_658, w_659⟩
abbrev b_Wf_digit : ByteArray := prog_1_method_15_code
def y_Wf_digit : MethodName := ⟨R_Wf, "digit", "(III)I"⟩
theorem m_Wf_digit : hw_mV y_Wf_digit b_Wf_digit 5 (some .int) 3 := ⟨⟨w_673, w_1, by decide +kernel, by decide +kernel, by decide +kernel⟩, w_671, w_672⟩
abbrev b_Wf_behind : ByteArray := prog_1_method_16_code
def y_Wf_behind : MethodName := ⟨R_Wf, "behind", "(II)I"⟩
theorem m_Wf_behind : hw_mV y_Wf_behind b_Wf_behind 3 (some .int) 2 := ⟨⟨w_701, w_1, by decide +kernel, by decide +kernel, by decide +kernel⟩, w_699, w_700⟩
abbrev b_Wf_modulo : ByteArray := prog_1_method_17_code
def y_Wf_modulo : MethodName := ⟨R_Wf, "modulo", "(III)I"⟩
theorem m_Wf_modulo : hw_mV y_Wf_modulo b_Wf_modulo 5 (some .int) 3 := ⟨⟨w_715, w_1, by decide +kernel, by decide +kernel, by decide +kernel⟩, w_713, w_714⟩
abbrev b_Wf_weight : ByteArray := prog_1_method_18_code
def y_Wf_weight : MethodName := ⟨R_Wf, "weight", "(II)I"⟩
theorem m_Wf_weight : hw_mV y_Wf_weight b_Wf_weight 3 (some .int) 2 := ⟨⟨w_727, w_1, by decide +kernel, by decide +kernel, by decide +kernel⟩, w_725, w_726⟩
abbrev b_Wf_share : ByteArray := prog_1_method_19_code
def y_Wf_share : MethodName := ⟨R_Wf, "share", "(III)V"⟩
theorem m_Wf_share : hw_mV y_Wf_share b_Wf_share 4 none 3 := ⟨⟨w_739, w_1, by decide +kernel, by decide +kernel, by decide +kernel⟩, w_737, w_738⟩
abbrev b_Wf_requireWithin : ByteArray := prog_1_method_20_code
def y_Wf_requireWithin : MethodName := ⟨R_Wf, "requireWithin", "(JJJ)V"⟩
theorem m_Wf_requireWithin : hw_mS y_Wf_requireWithin b_Wf_requireWithin 6 none 3 := ⟨⟨w_281, w_1, by decide +kernel, by decide +kernel, by decide +kernel⟩, w_280⟩
abbrev b_Wf_requireRegister : ByteArray := prog_1_method_21_code
def y_Wf_requireRegister : MethodName := ⟨R_Wf, "requireRegister", "(I)V"⟩
theorem m_Wf_requireRegister : hw_mS y_Wf_requireRegister b_Wf_requireRegister 1 none 1 := ⟨⟨w_207, w_1, by decide +kernel, by decide +kernel, by decide +kernel⟩, w_206⟩
abbrev b_Wf_requireRegisters : ByteArray := prog_1_method_22_code
def y_Wf_requireRegisters : MethodName := ⟨R_Wf, "requireRegisters", "(III)V"⟩
theorem m_Wf_requireRegisters : hw_mS y_Wf_requireRegisters b_Wf_requireRegisters 3 none 3 := ⟨⟨w_402, w_1, by decide +kernel, by decide +kernel, by decide +kernel⟩, w_401⟩
abbrev b_Wf_requireWhole : ByteArray := prog_1_method_23_code
def y_Wf_requireWhole : MethodName := ⟨R_Wf, "requireWhole", "(LWallFractions$Fraction;)V"⟩
theorem m_Wf_requireWhole : hw_mS y_Wf_requireWhole b_Wf_requireWhole 1 none 1 := ⟨⟨w_367, w_1, by decide +kernel, by decide +kernel, by decide +kernel⟩, w_366⟩
abbrev b_Wf_partOf : ByteArray := prog_1_method_24_code
def y_Wf_partOf : MethodName := ⟨R_Wf, "partOf", "(II)LWallFractions$Whole;"⟩
theorem m_Wf_partOf : hw_mV y_Wf_partOf b_Wf_partOf 3 (some (.object "WallFractions$Whole")) 2 := ⟨⟨w_664, w_1, by decide +kernel, by decide +kernel, by decide +kernel⟩, w_663, TT_sel (q := (⟨"WallFractions", "partOf", "(II)LWallFractions$Whole;"⟩, 3)) 15 (by decide +kernel)⟩
abbrev b_Wf_keep : ByteArray := prog_1_method_25_code
def y_Wf_keep : MethodName := ⟨R_Wf, "keep", "(I)V"⟩
theorem m_Wf_keep : hw_mV y_Wf_keep b_Wf_keep 2 none 1 := ⟨⟨w_333, w_1, by decide +kernel, by decide +kernel, by decide +kernel⟩, w_332, TT_sel (q := (⟨"WallFractions", "keep", "(I)V"⟩, 3)) 1 (by decide +kernel)⟩
abbrev b_Mo_init : ByteArray := prog_9_method_1_code
def y_Mo_init : MethodName := ⟨R_Mo, "<init>", "()V"⟩
theorem m_Mo_init : hw_mI y_Mo_init b_Mo_init 2 0 := ⟨⟨w_764, w_8, by decide +kernel, by decide +kernel, by decide +kernel⟩, rfl, w_763⟩
abbrev b_Mo_thrown : ByteArray := prog_9_method_2_code
def y_Mo_thrown : MethodName := ⟨R_Mo, "thrown", "()I"⟩
theorem m_Mo_thrown : hw_mV y_Mo_thrown b_Mo_thrown 1 (some .int) 0 := ⟨⟨w_793, w_8, by decide +kernel, by decide +kernel, by decide +kernel⟩, w_791, w_792⟩
abbrev b_Mo_in : ByteArray := prog_9_method_3_code
def y_Mo_in : MethodName := ⟨R_Mo, "in", "(JJJ)Z"⟩
theorem m_Mo_in : hw_mS y_Mo_in b_Mo_in 6 (some .boolean) 3 := ⟨⟨w_845, w_8, by decide +kernel, by decide +kernel, by decide +kernel⟩, w_844⟩
abbrev b_Mo_isRegister : ByteArray := prog_9_method_4_code
def y_Mo_isRegister : MethodName := ⟨R_Mo, "isRegister", "(I)Z"⟩
theorem m_Mo_isRegister : hw_mS y_Mo_isRegister b_Mo_isRegister 1 (some .boolean) 1 := ⟨⟨w_801, w_8, by decide +kernel, by decide +kernel, by decide +kernel⟩, w_800⟩
abbrev b_Mo_cell : ByteArray := prog_9_method_5_code
def y_Mo_cell : MethodName := ⟨R_Mo, "cell", "(II)I"⟩
theorem m_Mo_cell : hw_mV y_Mo_cell b_Mo_cell 3 (some .int) 2 := ⟨⟨w_825, w_8, by decide +kernel, by decide +kernel, by decide +kernel⟩, w_824, TT_sel (q := (⟨"WallFractionsModel", "cell", "(II)I"⟩, 6)) 23 (by decide +kernel)⟩
abbrev b_Mo_trim : ByteArray := prog_9_method_6_code
def y_Mo_trim : MethodName := ⟨R_Mo, "trim", "(II)V"⟩
theorem m_Mo_trim : hw_mV y_Mo_trim b_Mo_trim 4 none 2 := ⟨⟨w_837, w_8, by decide +kernel, by decide +kernel, by decide +kernel⟩, w_836, TT_sel (q := (⟨"WallFractionsModel", "trim", "(II)V"⟩, 6)) 26 (by decide +kernel)⟩
abbrev b_Mo_setLong : ByteArray := prog_9_method_7_code
def y_Mo_setLong : MethodName := ⟨R_Mo, "setLong", "(IJ)V"⟩
theorem m_Mo_setLong : hw_mV y_Mo_setLong b_Mo_setLong 7 none 2 := ⟨⟨w_769, w_8, by decide +kernel, by decide +kernel, by decide +kernel⟩, w_768, TT_sel (q := (⟨"WallFractionsModel", "setLong", "(IJ)V"⟩, 6)) 17 (by decide +kernel)⟩
abbrev b_Mo_copy : ByteArray := prog_9_method_8_code
def y_Mo_copy : MethodName := ⟨R_Mo, "copy", "(II)V"⟩
theorem m_Mo_copy : hw_mV y_Mo_copy b_Mo_copy 4 none 2 := ⟨⟨w_813, w_8, by decide +kernel, by decide +kernel, by decide +kernel⟩, w_812, TT_sel (q := (⟨"WallFractionsModel", "copy", "(II)V"⟩, 6)) 20 (by decide +kernel)⟩
abbrev b_Mo_isZero : ByteArray := prog_9_method_9_code
def y_Mo_isZero : MethodName := ⟨R_Mo, "isZero", "(I)Z"⟩
theorem m_Mo_isZero : hw_mV y_Mo_isZero b_Mo_isZero 2 (some .boolean) 1 := ⟨⟨w_817, w_8, by decide +kernel, by decide +kernel, by decide +kernel⟩, w_816, TT_sel (q := (⟨"WallFractionsModel", "isZero", "(I)Z"⟩, 6)) 21 (by decide +kernel)⟩
abbrev b_Mo_order : ByteArray := prog_9_method_10_code
def y_Mo_order : MethodName := ⟨R_Mo, "order", "(II)I"⟩
theorem m_Mo_order : hw_mV y_Mo_order b_Mo_order 5 (some .int) 2 := ⟨⟨w_877, w_8, by decide +kernel, by decide +kernel, by decide +kernel⟩, w_876, TT_sel (q := (⟨"WallFractionsModel", "order", "(II)I"⟩, 6)) 32 (by decide +kernel)⟩
abbrev b_Mo_plus : ByteArray := prog_9_method_11_code
def y_Mo_plus : MethodName := ⟨R_Mo, "plus", "(III)V"⟩
theorem m_Mo_plus : hw_mV y_Mo_plus b_Mo_plus 8 none 3 := ⟨⟨w_873, w_8, by decide +kernel, by decide +kernel, by decide +kernel⟩, w_872, TT_sel (q := (⟨"WallFractionsModel", "plus", "(III)V"⟩, 6)) 31 (by decide +kernel)⟩
abbrev b_Mo_less : ByteArray := prog_9_method_12_code
def y_Mo_less : MethodName := ⟨R_Mo, "less", "(III)V"⟩
theorem m_Mo_less : hw_mV y_Mo_less b_Mo_less 8 none 3 := ⟨⟨w_881, w_8, by decide +kernel, by decide +kernel, by decide +kernel⟩, w_880, TT_sel (q := (⟨"WallFractionsModel", "less", "(III)V"⟩, 6)) 33 (by decide +kernel)⟩
abbrev b_Mo_product : ByteArray := prog_9_method_13_code
def y_Mo_product : MethodName := ⟨R_Mo, "product", "(III)V"⟩
theorem m_Mo_product : hw_mV y_Mo_product b_Mo_product 9 none 3 := ⟨⟨w_869, w_8, by decide +kernel, by decide +kernel, by decide +kernel⟩, w_868, TT_sel (q := (⟨"WallFractionsModel", "product", "(III)V"⟩, 6)) 30 (by decide +kernel)⟩
abbrev b_Mo_times : ByteArray := prog_9_method_14_code
def y_Mo_times : MethodName := ⟨R_Mo, "times", "(IJJ)V"⟩
theorem m_Mo_times : hw_mV y_Mo_times b_Mo_times 12 none 3 := ⟨⟨w_854, w_8, by decide +kernel, by decide +kernel, by decide +kernel⟩, w_853, TT_sel (q := (⟨"WallFractionsModel", "times", "(IJJ)V"⟩, 6)) 28 (by decide +kernel)⟩
abbrev b_Mo_tens : ByteArray := prog_9_method_15_code
def y_Mo_tens : MethodName := ⟨R_Mo, "tens", "(II)V"⟩
theorem m_Mo_tens : hw_mV y_Mo_tens b_Mo_tens 4 none 2 := ⟨⟨w_917, w_8, by decide +kernel, by decide +kernel, by decide +kernel⟩, w_916, TT_sel (q := (⟨"WallFractionsModel", "tens", "(II)V"⟩, 6)) 35 (by decide +kernel)⟩
abbrev b_Mo_by : ByteArray := prog_9_method_16_code
def y_Mo_by : MethodName := ⟨R_Mo, "by", "(IJ)J"⟩
theorem m_Mo_by : hw_mV y_Mo_by b_Mo_by 9 (some .long) 2 := ⟨⟨w_907, w_8, by decide +kernel, by decide +kernel, by decide +kernel⟩, w_906, TT_sel (q := (⟨"WallFractionsModel", "by", "(IJ)J"⟩, 6)) 34 (by decide +kernel)⟩
abbrev b_Mo_holds : ByteArray := prog_9_method_17_code
def y_Mo_holds : MethodName := ⟨R_Mo, "holds", "(III)Z"⟩
theorem m_Mo_holds : hw_mV y_Mo_holds b_Mo_holds 6 (some .boolean) 3 := ⟨⟨w_829, w_8, by decide +kernel, by decide +kernel, by decide +kernel⟩, w_828, TT_sel (q := (⟨"WallFractionsModel", "holds", "(III)Z"⟩, 6)) 24 (by decide +kernel)⟩
abbrev b_Mo_takeOff : ByteArray := prog_9_method_18_code
def y_Mo_takeOff : MethodName := ⟨R_Mo, "takeOff", "(IIII)V"⟩
theorem m_Mo_takeOff : hw_mV y_Mo_takeOff b_Mo_takeOff 9 none 4 := ⟨⟨w_833, w_8, by decide +kernel, by decide +kernel, by decide +kernel⟩, w_832, TT_sel (q := (⟨"WallFractionsModel", "takeOff", "(IIII)V"⟩, 6)) 25 (by decide +kernel)⟩
abbrev b_Mo_part : ByteArray := prog_9_method_19_code
def y_Mo_part : MethodName := ⟨R_Mo, "part", "(III)V"⟩
theorem m_Mo_part : hw_mV y_Mo_part b_Mo_part 14 none 3 := ⟨⟨w_821, w_8, by decide +kernel, by decide +kernel, by decide +kernel⟩, w_820, TT_sel (q := (⟨"WallFractionsModel", "part", "(III)V"⟩, 6)) 22 (by decide +kernel)⟩
abbrev b_Mo_divisor : ByteArray := prog_9_method_20_code
def y_Mo_divisor : MethodName := ⟨R_Mo, "divisor", "(II)I"⟩
theorem m_Mo_divisor : hw_mV y_Mo_divisor b_Mo_divisor 6 (some .int) 2 := ⟨⟨w_809, w_8, by decide +kernel, by decide +kernel, by decide +kernel⟩, w_808, TT_sel (q := (⟨"WallFractionsModel", "divisor", "(II)I"⟩, 6)) 19 (by decide +kernel)⟩
abbrev b_Mo_digitsIn : ByteArray := prog_9_method_21_code
def y_Mo_digitsIn : MethodName := ⟨R_Mo, "digitsIn", "(I)I"⟩
theorem m_Mo_digitsIn : hw_mV y_Mo_digitsIn b_Mo_digitsIn 4 (some .int) 1 := ⟨⟨w_938, w_8, by decide +kernel, by decide +kernel, by decide +kernel⟩, w_937, TT_sel (q := (⟨"WallFractionsModel", "digitsIn", "(I)I"⟩, 6)) 39 (by decide +kernel)⟩
abbrev b_Mo_finish : ByteArray := prog_9_method_22_code
def y_Mo_finish : MethodName := ⟨R_Mo, "finish", "(II)Z"⟩
theorem m_Mo_finish : hw_mV y_Mo_finish b_Mo_finish 4 (some .boolean) 2 := ⟨⟨w_805, w_8, by decide +kernel, by decide +kernel, by decide +kernel⟩, w_804, TT_sel (q := (⟨"WallFractionsModel", "finish", "(II)Z"⟩, 6)) 18 (by decide +kernel)⟩
abbrev b_Mo_set : ByteArray := prog_9_method_23_code
def y_Mo_set : MethodName := ⟨R_Mo, "set", "(IJJ)V"⟩
theorem m_Mo_set : hw_mV y_Mo_set b_Mo_set 9 none 3 := ⟨⟨w_797, w_8, by decide +kernel, by decide +kernel, by decide +kernel⟩, w_795, w_796⟩
abbrev b_Mo_isWhole : ByteArray := prog_9_method_24_code
def y_Mo_isWhole : MethodName := ⟨R_Mo, "isWhole", "(I)Z"⟩
theorem m_Mo_isWhole : hw_mV y_Mo_isWhole b_Mo_isWhole 2 (some .boolean) 1 := ⟨⟨w_849, w_8, by decide +kernel, by decide +kernel, by decide +kernel⟩, w_848, TT_sel (q := (⟨"WallFractionsModel", "isWhole", "(I)Z"⟩, 6)) 27 (by decide +kernel)⟩
abbrev b_Mo_more : ByteArray := prog_9_method_25_code
def y_Mo_more : MethodName := ⟨R_Mo, "more", "(II)V"⟩
theorem m_Mo_more : hw_mV y_Mo_more b_Mo_more 3 none 2 := ⟨⟨w_841, w_8, by decide +kernel, by decide +kernel, by decide +kernel⟩, w_839, w_840⟩
abbrev b_Mo_sum : ByteArray := prog_9_method_26_code
def y_Mo_sum : MethodName := ⟨R_Mo, "sum", "(IIII)V"⟩
theorem m_Mo_sum : hw_mV y_Mo_sum b_Mo_sum 6 none 4 := ⟨⟨w_865, w_8, by decide +kernel, by decide +kernel, by decide +kernel⟩, w_864, TT_sel (q := (⟨"WallFractionsModel", "sum", "(IIII)V"⟩, 6)) 29 (by decide +kernel)⟩
abbrev b_Mo_areThere : ByteArray := prog_9_method_27_code
def y_Mo_areThere : MethodName := ⟨R_Mo, "areThere", "(III)Z"⟩
theorem m_Mo_areThere : hw_mS y_Mo_areThere b_Mo_areThere 3 (some .boolean) 3 := ⟨⟨w_861, w_8, by decide +kernel, by decide +kernel, by decide +kernel⟩, w_860⟩
abbrev b_Mo_add : ByteArray := prog_9_method_28_code
def y_Mo_add : MethodName := ⟨R_Mo, "add", "(III)V"⟩
theorem m_Mo_add : hw_mV y_Mo_add b_Mo_add 4 none 3 := ⟨⟨w_858, w_8, by decide +kernel, by decide +kernel, by decide +kernel⟩, w_856, w_857⟩
abbrev b_Mo_subtract : ByteArray := prog_9_method_29_code
def y_Mo_subtract : MethodName := ⟨R_Mo, "subtract", "(III)V"⟩
theorem m_Mo_subtract : hw_mV y_Mo_subtract b_Mo_subtract 4 none 3 := ⟨⟨w_885, w_8, by decide +kernel, by decide +kernel, by decide +kernel⟩, w_883, w_884⟩
abbrev b_Mo_multiply : ByteArray := prog_9_method_30_code
def y_Mo_multiply : MethodName := ⟨R_Mo, "multiply", "(III)V"⟩
theorem m_Mo_multiply : hw_mV y_Mo_multiply b_Mo_multiply 4 none 3 := ⟨⟨w_889, w_8, by decide +kernel, by decide +kernel, by decide +kernel⟩, w_887, w_888⟩
abbrev b_Mo_divide : ByteArray := prog_9_method_31_code
def y_Mo_divide : MethodName := ⟨R_Mo, "divide", "(III)V"⟩
theorem m_Mo_divide : hw_mV y_Mo_divide b_Mo_divide 4 none 3 := ⟨⟨w_893, w_8, by decide +kernel, by decide +kernel, by decide +kernel⟩, w_891, w_892⟩
abbrev b_Mo_power : ByteArray := prog_9_method_32_code
def y_Mo_power : MethodName := ⟨R_Mo, "power", "(III)V"⟩
theorem m_Mo_power : hw_mV y_Mo_power b_Mo_power 5 none 3 := ⟨⟨w_897, w_8, by decide +kernel, by decide +kernel, by decide +kernel⟩, w_895, w_896⟩
abbrev b_Mo_binomial : ByteArray := prog_9_method_33_code
def y_Mo_binomial : MethodName := ⟨R_Mo, "binomial", "(III)V"⟩
theorem m_Mo_binomial : hw_mV y_Mo_binomial b_Mo_binomial 8 none 3 := ⟨⟨w_902, w_8, by decide +kernel, by decide +kernel, by decide +kernel⟩, w_900, w_901⟩
abbrev b_Mo_floor : ByteArray := prog_9_method_34_code
def y_Mo_floor : MethodName := ⟨R_Mo, "floor", "(IZ)V"⟩
theorem m_Mo_floor : hw_mV y_Mo_floor b_Mo_floor 4 none 2 := ⟨⟨w_922, w_8, by decide +kernel, by decide +kernel, by decide +kernel⟩, w_921, TT_sel (q := (⟨"WallFractionsModel", "floor", "(IZ)V"⟩, 6)) 36 (by decide +kernel)⟩
abbrev b_Mo_units : ByteArray := prog_9_method_35_code
def y_Mo_units : MethodName := ⟨R_Mo, "units", "(III)Z"⟩
theorem m_Mo_units : hw_mV y_Mo_units b_Mo_units 4 (some .boolean) 3 := ⟨⟨w_926, w_8, by decide +kernel, by decide +kernel, by decide +kernel⟩, w_925, TT_sel (q := (⟨"WallFractionsModel", "units", "(III)Z"⟩, 6)) 37 (by decide +kernel)⟩
abbrev b_Mo_round : ByteArray := prog_9_method_36_code
def y_Mo_round : MethodName := ⟨R_Mo, "round", "(IIII)V"⟩
theorem m_Mo_round : hw_mV y_Mo_round b_Mo_round 6 none 4 := ⟨⟨w_911, w_8, by decide +kernel, by decide +kernel, by decide +kernel⟩, w_909, w_910⟩
abbrev b_Mo_takeRoot : ByteArray := prog_9_method_37_code
def y_Mo_takeRoot : MethodName := ⟨R_Mo, "takeRoot", "()V"⟩
theorem m_Mo_takeRoot : hw_mV y_Mo_takeRoot b_Mo_takeRoot 5 none 0 := ⟨⟨w_934, w_8, by decide +kernel, by decide +kernel, by decide +kernel⟩, w_933, TT_sel (q := (⟨"WallFractionsModel", "takeRoot", "()V"⟩, 6)) 38 (by decide +kernel)⟩
abbrev b_Mo_root : ByteArray := prog_9_method_38_code
def y_Mo_root : MethodName := ⟨R_Mo, "root", "(III)V"⟩
theorem m_Mo_root : hw_mV y_Mo_root b_Mo_root 4 none 3 := ⟨⟨w_930, w_8, by decide +kernel, by decide +kernel, by decide +kernel⟩, w_928, w_929⟩
abbrev b_Mo_compare : ByteArray := prog_9_method_39_code
def y_Mo_compare : MethodName := ⟨R_Mo, "compare", "(II)I"⟩
theorem m_Mo_compare : hw_mV y_Mo_compare b_Mo_compare 3 (some .int) 2 := ⟨⟨w_942, w_8, by decide +kernel, by decide +kernel, by decide +kernel⟩, w_940, w_941⟩
abbrev b_Mo_sign : ByteArray := prog_9_method_40_code
def y_Mo_sign : MethodName := ⟨R_Mo, "sign", "(I)I"⟩
theorem m_Mo_sign : hw_mV y_Mo_sign b_Mo_sign 2 (some .int) 1 := ⟨⟨w_946, w_8, by decide +kernel, by decide +kernel, by decide +kernel⟩, w_944, w_945⟩
abbrev b_Mo_digits : ByteArray := prog_9_method_41_code
def y_Mo_digits : MethodName := ⟨R_Mo, "digits", "(II)I"⟩
theorem m_Mo_digits : hw_mV y_Mo_digits b_Mo_digits 3 (some .int) 2 := ⟨⟨w_950, w_8, by decide +kernel, by decide +kernel, by decide +kernel⟩, w_948, w_949⟩
abbrev b_Mo_digit : ByteArray := prog_9_method_42_code
def y_Mo_digit : MethodName := ⟨R_Mo, "digit", "(III)I"⟩
theorem m_Mo_digit : hw_mV y_Mo_digit b_Mo_digit 6 (some .int) 3 := ⟨⟨w_954, w_8, by decide +kernel, by decide +kernel, by decide +kernel⟩, w_952, w_953⟩
abbrev b_Mo_behind : ByteArray := prog_9_method_43_code
def y_Mo_behind : MethodName := ⟨R_Mo, "behind", "(II)I"⟩
theorem m_Mo_behind : hw_mV y_Mo_behind b_Mo_behind 4 (some .int) 2 := ⟨⟨w_958, w_8, by decide +kernel, by decide +kernel, by decide +kernel⟩, w_956, w_957⟩
abbrev b_Mo_modulo : ByteArray := prog_9_method_44_code
def y_Mo_modulo : MethodName := ⟨R_Mo, "modulo", "(III)I"⟩
theorem m_Mo_modulo : hw_mV y_Mo_modulo b_Mo_modulo 4 (some .int) 3 := ⟨⟨w_963, w_8, by decide +kernel, by decide +kernel, by decide +kernel⟩, w_961, w_962⟩
abbrev b_Mo_weight : ByteArray := prog_9_method_45_code
def y_Mo_weight : MethodName := ⟨R_Mo, "weight", "(II)I"⟩
theorem m_Mo_weight : hw_mV y_Mo_weight b_Mo_weight 4 (some .int) 2 := ⟨⟨w_967, w_8, by decide +kernel, by decide +kernel, by decide +kernel⟩, w_965, w_966⟩
abbrev b_Mo_share : ByteArray := prog_9_method_46_code
def y_Mo_share : MethodName := ⟨R_Mo, "share", "(III)V"⟩
theorem m_Mo_share : hw_mV y_Mo_share b_Mo_share 9 none 3 := ⟨⟨w_972, w_8, by decide +kernel, by decide +kernel, by decide +kernel⟩, w_970, w_971⟩
abbrev b_Dv_init : ByteArray := prog_2_method_1_code
def y_Dv_init : MethodName := ⟨R_Dv, "<init>", "()V"⟩
theorem m_Dv_init : hw_mI y_Dv_init b_Dv_init 1 0 := ⟨⟨w_77, w_4, by decide +kernel, by decide +kernel, by decide +kernel⟩, rfl, w_76⟩
abbrev b_Dv_split : ByteArray := prog_2_method_2_code
def y_Dv_split : MethodName := ⟨R_Dv, "split", "(LWallFractions$Whole;LWallFractions$Whole;LWallFractions$Whole;LWallFractions$Whole;)V"⟩
theorem m_Dv_split : hw_mV y_Dv_split b_Dv_split 5 none 4 := ⟨⟨w_465, w_4, by decide +kernel, by decide +kernel, by decide +kernel⟩, w_463, w_464⟩
abbrev b_Dv_splitLong : ByteArray := prog_2_method_3_code
def y_Dv_splitLong : MethodName := ⟨R_Dv, "splitLong", "(LWallFractions$Whole;LWallFractions$Whole;LWallFractions$Whole;LWallFractions$Whole;)V"⟩
theorem m_Dv_splitLong : hw_mV y_Dv_splitLong b_Dv_splitLong 10 none 4 := ⟨⟨w_480, w_4, by decide +kernel, by decide +kernel, by decide +kernel⟩, w_479, TT_sel (q := (⟨"WallFractions$Divider", "splitLong", "(LWallFractions$Whole;LWallFractions$Whole;LWallFractions$Whole;LWallFractions$Whole;)V"⟩, 2)) 6 (by decide +kernel)⟩
abbrev b_Dv_lay : ByteArray := prog_2_method_4_code
def y_Dv_lay : MethodName := ⟨R_Dv, "lay", "(LWallFractions$Whole;J[J)V"⟩
theorem m_Dv_lay : hw_mS y_Dv_lay b_Dv_lay 9 none 3 := ⟨⟨w_485, w_4, by decide +kernel, by decide +kernel, by decide +kernel⟩, w_484⟩
abbrev b_Dv_takeOff : ByteArray := prog_2_method_5_code
def y_Dv_takeOff : MethodName := ⟨R_Dv, "takeOff", "(II)J"⟩
theorem m_Dv_takeOff : hw_mV y_Dv_takeOff b_Dv_takeOff 10 (some .long) 2 := ⟨⟨w_489, w_4, by decide +kernel, by decide +kernel, by decide +kernel⟩, w_488, TT_sel (q := (⟨"WallFractions$Divider", "takeOff", "(II)J"⟩, 2)) 7 (by decide +kernel)⟩
abbrev b_Dv_guess : ByteArray := prog_2_method_6_code
def y_Dv_guess : MethodName := ⟨R_Dv, "guess", "(II)J"⟩
theorem m_Dv_guess : hw_mV y_Dv_guess b_Dv_guess 11 (some .long) 2 := ⟨⟨w_493, w_4, by decide +kernel, by decide +kernel, by decide +kernel⟩, w_492, TT_sel (q := (⟨"WallFractions$Divider", "guess", "(II)J"⟩, 2)) 8 (by decide +kernel)⟩
abbrev b_Dv_putBack : ByteArray := prog_2_method_7_code
def y_Dv_putBack : MethodName := ⟨R_Dv, "putBack", "(II)V"⟩
theorem m_Dv_putBack : hw_mV y_Dv_putBack b_Dv_putBack 8 none 2 := ⟨⟨w_500, w_4, by decide +kernel, by decide +kernel, by decide +kernel⟩, w_499, TT_sel (q := (⟨"WallFractions$Divider", "putBack", "(II)V"⟩, 2)) 9 (by decide +kernel)⟩
abbrev b_Fr_init : ByteArray := prog_3_method_1_code
def y_Fr_init : MethodName := ⟨R_Fr, "<init>", "()V"⟩
theorem m_Fr_init : hw_mI y_Fr_init b_Fr_init 1 0 := ⟨⟨w_31, w_2, by decide +kernel, by decide +kernel, by decide +kernel⟩, rfl, w_30⟩
abbrev b_Fr_copyFrom : ByteArray := prog_3_method_2_code
def y_Fr_copyFrom : MethodName := ⟨R_Fr, "copyFrom", "(LWallFractions$Fraction;)V"⟩
theorem m_Fr_copyFrom : hw_mV y_Fr_copyFrom b_Fr_copyFrom 2 none 1 := ⟨⟨w_348, w_2, by decide +kernel, by decide +kernel, by decide +kernel⟩, w_346, w_347⟩
abbrev b_Fr_fits : ByteArray := prog_3_method_3_code
def y_Fr_fits : MethodName := ⟨R_Fr, "fits", "()Z"⟩
theorem m_Fr_fits : hw_mV y_Fr_fits b_Fr_fits 1 (some .boolean) 0 := ⟨⟨w_341, w_2, by decide +kernel, by decide +kernel, by decide +kernel⟩, w_339, w_340⟩
abbrev b_Fr_direction : ByteArray := prog_3_method_4_code
def y_Fr_direction : MethodName := ⟨R_Fr, "direction", "()I"⟩
theorem m_Fr_direction : hw_mV y_Fr_direction b_Fr_direction 1 (some .int) 0 := ⟨⟨w_652, w_2, by decide +kernel, by decide +kernel, by decide +kernel⟩, w_650, w_651⟩
abbrev b_Ms_init : ByteArray := prog_4_method_1_code
def y_Ms_init : MethodName := ⟨R_Ms, "<init>", "(LWallFractions$Divider;)V"⟩
theorem m_Ms_init : hw_mI y_Ms_init b_Ms_init 2 1 := ⟨⟨w_96, w_6, by decide +kernel, by decide +kernel, by decide +kernel⟩, rfl, w_95⟩
abbrev b_Ms_of : ByteArray := prog_4_method_2_code
def y_Ms_of : MethodName := ⟨R_Ms, "of", "(LWallFractions$Whole;LWallFractions$Whole;)LWallFractions$Whole;"⟩
theorem m_Ms_of : hw_mV y_Ms_of b_Ms_of 5 (some (.object "WallFractions$Whole")) 2 := ⟨⟨w_437, w_6, by decide +kernel, by decide +kernel, by decide +kernel⟩, w_435, w_436⟩
abbrev b_Ms_ofShort : ByteArray := prog_4_method_3_code
def y_Ms_ofShort : MethodName := ⟨R_Ms, "ofShort", "(JJ)J"⟩
theorem m_Ms_ofShort : hw_mS y_Ms_ofShort b_Ms_ofShort 11 (some .long) 2 := ⟨⟨w_308, w_6, by decide +kernel, by decide +kernel, by decide +kernel⟩, w_307⟩
abbrev b_Ms_shift : ByteArray := prog_4_method_4_code
def y_Ms_shift : MethodName := ⟨R_Ms, "shift", "()V"⟩
theorem m_Ms_shift : hw_mV y_Ms_shift b_Ms_shift 2 none 0 := ⟨⟨w_506, w_6, by decide +kernel, by decide +kernel, by decide +kernel⟩, w_505, TT_sel (q := (⟨"WallFractions$Measure", "shift", "()V"⟩, 9)) 10 (by decide +kernel)⟩
abbrev b_Ms_gather : ByteArray := prog_4_method_5_code
def y_Ms_gather : MethodName := ⟨R_Ms, "gather", "()V"⟩
theorem m_Ms_gather : hw_mV y_Ms_gather b_Ms_gather 16 none 0 := ⟨⟨w_447, w_6, by decide +kernel, by decide +kernel, by decide +kernel⟩, w_446, TT_sel (q := (⟨"WallFractions$Measure", "gather", "()V"⟩, 9)) 4 (by decide +kernel)⟩
abbrev b_Ms_leading : ByteArray := prog_4_method_6_code
def y_Ms_leading : MethodName := ⟨R_Ms, "leading", "(LWallFractions$Whole;J)J"⟩
theorem m_Ms_leading : hw_mV y_Ms_leading b_Ms_leading 7 (some .long) 2 := ⟨⟨w_458, w_6, by decide +kernel, by decide +kernel, by decide +kernel⟩, w_457, TT_sel (q := (⟨"WallFractions$Measure", "leading", "(LWallFractions$Whole;J)J"⟩, 9)) 5 (by decide +kernel)⟩
abbrev b_Ms_catchUp : ByteArray := prog_4_method_7_code
def y_Ms_catchUp : MethodName := ⟨R_Ms, "catchUp", "()V"⟩
theorem m_Ms_catchUp : hw_mV y_Ms_catchUp b_Ms_catchUp 15 none 0 := ⟨⟨w_510, w_6, by decide +kernel, by decide +kernel, by decide +kernel⟩, w_509, TT_sel (q := (⟨"WallFractions$Measure", "catchUp", "()V"⟩, 9)) 11 (by decide +kernel)⟩
abbrev b_Rk_init : ByteArray := prog_5_method_1_code
def y_Rk_init : MethodName := ⟨R_Rk, "<init>", "(LWallFractions$Divider;)V"⟩
theorem m_Rk_init : hw_mI y_Rk_init b_Rk_init 2 1 := ⟨⟨w_90, w_5, by decide +kernel, by decide +kernel, by decide +kernel⟩, rfl, w_89⟩
abbrev b_Rk_requireFit : ByteArray := prog_5_method_2_code
def y_Rk_requireFit : MethodName := ⟨R_Rk, "requireFit", "()V"⟩
theorem m_Rk_requireFit : hw_mV y_Rk_requireFit b_Rk_requireFit 1 none 0 := ⟨⟨w_337, w_5, by decide +kernel, by decide +kernel, by decide +kernel⟩, w_335, w_336⟩
abbrev b_Rk_ratio : ByteArray := prog_5_method_3_code
def y_Rk_ratio : MethodName := ⟨R_Rk, "ratio", "(JJ)V"⟩
theorem m_Rk_ratio : hw_mV y_Rk_ratio b_Rk_ratio 7 none 2 := ⟨⟨w_302, w_5, by decide +kernel, by decide +kernel, by decide +kernel⟩, w_300, w_301⟩
abbrev b_Rk_lengthen : ByteArray := prog_5_method_4_code
def y_Rk_lengthen : MethodName := ⟨R_Rk, "lengthen", "(LWallFractions$Fraction;I)V"⟩
theorem m_Rk_lengthen : hw_mV y_Rk_lengthen b_Rk_lengthen 3 none 2 := ⟨⟨w_378, w_5, by decide +kernel, by decide +kernel, by decide +kernel⟩, w_376, w_377⟩
abbrev b_Rk_total : ByteArray := prog_5_method_5_code
def y_Rk_total : MethodName := ⟨R_Rk, "total", "(LWallFractions$Fraction;LWallFractions$Fraction;Z)V"⟩
theorem m_Rk_total : hw_mV y_Rk_total b_Rk_total 4 none 3 := ⟨⟨w_406, w_5, by decide +kernel, by decide +kernel, by decide +kernel⟩, w_404, w_405⟩
abbrev b_Rk_product : ByteArray := prog_5_method_6_code
def y_Rk_product : MethodName := ⟨R_Rk, "product", "(LWallFractions$Fraction;LWallFractions$Whole;LWallFractions$Whole;Z)V"⟩
theorem m_Rk_product : hw_mV y_Rk_product b_Rk_product 5 none 4 := ⟨⟨w_539, w_5, by decide +kernel, by decide +kernel, by decide +kernel⟩, w_537, w_538⟩
abbrev b_Rk_raise : ByteArray := prog_5_method_7_code
def y_Rk_raise : MethodName := ⟨R_Rk, "raise", "(LWallFractions$Fraction;I)V"⟩
theorem m_Rk_raise : hw_mV y_Rk_raise b_Rk_raise 4 none 2 := ⟨⟨w_560, w_5, by decide +kernel, by decide +kernel, by decide +kernel⟩, w_558, w_559⟩
abbrev b_Rk_multiplyOut : ByteArray := prog_5_method_8_code
def y_Rk_multiplyOut : MethodName := ⟨R_Rk, "multiplyOut", "(LWallFractions$Fraction;)V"⟩
theorem m_Rk_multiplyOut : hw_mV y_Rk_multiplyOut b_Rk_multiplyOut 2 none 1 := ⟨⟨w_564, w_5, by decide +kernel, by decide +kernel, by decide +kernel⟩, w_563, TT_sel (q := (⟨"WallFractions$Reckoner", "multiplyOut", "(LWallFractions$Fraction;)V"⟩, 7)) 12 (by decide +kernel)⟩
abbrev b_Rk_choose : ByteArray := prog_5_method_9_code
def y_Rk_choose : MethodName := ⟨R_Rk, "choose", "(II)V"⟩
theorem m_Rk_choose : hw_mV y_Rk_choose b_Rk_choose 5 none 2 := ⟨⟨w_578, w_5, by decide +kernel, by decide +kernel, by decide +kernel⟩, w_576, w_577⟩
abbrev b_Rk_shorten : ByteArray := prog_5_method_10_code
def y_Rk_shorten : MethodName := ⟨R_Rk, "shorten", "(LWallFractions$Fraction;II)V"⟩
theorem m_Rk_shorten : hw_mV y_Rk_shorten b_Rk_shorten 4 none 3 := ⟨⟨w_595, w_5, by decide +kernel, by decide +kernel, by decide +kernel⟩, w_593, w_594⟩
abbrev b_Rk_goesUp : ByteArray := prog_5_method_11_code
def y_Rk_goesUp : MethodName := ⟨R_Rk, "goesUp", "(LWallFractions$Fraction;I)Z"⟩
theorem m_Rk_goesUp : hw_mV y_Rk_goesUp b_Rk_goesUp 3 (some .boolean) 2 := ⟨⟨w_603, w_5, by decide +kernel, by decide +kernel, by decide +kernel⟩, w_602, TT_sel (q := (⟨"WallFractions$Reckoner", "goesUp", "(LWallFractions$Fraction;I)Z"⟩, 7)) 13 (by decide +kernel)⟩
abbrev b_Rk_extractRoot : ByteArray := prog_5_method_12_code
def y_Rk_extractRoot : MethodName := ⟨R_Rk, "extractRoot", "(LWallFractions$Fraction;I)V"⟩
theorem m_Rk_extractRoot : hw_mV y_Rk_extractRoot b_Rk_extractRoot 3 none 2 := ⟨⟨w_620, w_5, by decide +kernel, by decide +kernel, by decide +kernel⟩, w_618, w_619⟩
abbrev b_Rk_squareRoot : ByteArray := prog_5_method_13_code
def y_Rk_squareRoot : MethodName := ⟨R_Rk, "squareRoot", "(LWallFractions$Whole;LWallFractions$Whole;)V"⟩
theorem m_Rk_squareRoot : hw_mV y_Rk_squareRoot b_Rk_squareRoot 5 none 2 := ⟨⟨w_624, w_5, by decide +kernel, by decide +kernel, by decide +kernel⟩, w_623, TT_sel (q := (⟨"WallFractions$Reckoner", "squareRoot", "(LWallFractions$Whole;LWallFractions$Whole;)V"⟩, 7)) 14 (by decide +kernel)⟩
abbrev b_Rk_putOut : ByteArray := prog_5_method_14_code
def y_Rk_putOut : MethodName := ⟨R_Rk, "putOut", "(LWallFractions$Whole;IZ)V"⟩
theorem m_Rk_putOut : hw_mV y_Rk_putOut b_Rk_putOut 4 none 3 := ⟨⟨w_608, w_5, by decide +kernel, by decide +kernel, by decide +kernel⟩, w_606, w_607⟩
abbrev b_Rk_reduce : ByteArray := prog_5_method_15_code
def y_Rk_reduce : MethodName := ⟨R_Rk, "reduce", "()V"⟩
theorem m_Rk_reduce : hw_mV y_Rk_reduce b_Rk_reduce 2 none 0 := ⟨⟨w_433, w_5, by decide +kernel, by decide +kernel, by decide +kernel⟩, w_431, w_432⟩
abbrev b_Rk_order : ByteArray := prog_5_method_16_code
def y_Rk_order : MethodName := ⟨R_Rk, "order", "(LWallFractions$Fraction;LWallFractions$Fraction;)I"⟩
theorem m_Rk_order : hw_mV y_Rk_order b_Rk_order 3 (some .int) 2 := ⟨⟨w_641, w_5, by decide +kernel, by decide +kernel, by decide +kernel⟩, w_639, w_640⟩
abbrev b_Rk_decimalBehind : ByteArray := prog_5_method_17_code
def y_Rk_decimalBehind : MethodName := ⟨R_Rk, "decimalBehind", "(LWallFractions$Fraction;I)I"⟩
theorem m_Rk_decimalBehind : hw_mV y_Rk_decimalBehind b_Rk_decimalBehind 4 (some .int) 2 := ⟨⟨w_706, w_5, by decide +kernel, by decide +kernel, by decide +kernel⟩, w_704, w_705⟩
abbrev b_Sh_init : ByteArray := prog_6_method_1_code
def y_Sh_init : MethodName := ⟨R_Sh, "<init>", "(LWallFractions$Divider;)V"⟩
theorem m_Sh_init : hw_mI y_Sh_init b_Sh_init 2 1 := ⟨⟨w_159, w_7, by decide +kernel, by decide +kernel, by decide +kernel⟩, rfl, w_158⟩
abbrev b_Sh_exchange : ByteArray := prog_6_method_2_code
def y_Sh_exchange : MethodName := ⟨R_Sh, "exchange", "(II)I"⟩
theorem m_Sh_exchange : hw_mV y_Sh_exchange b_Sh_exchange 4 (some .int) 2 := ⟨⟨w_732, w_7, by decide +kernel, by decide +kernel, by decide +kernel⟩, w_730, w_731⟩
abbrev b_Sh_sumOfWeights : ByteArray := prog_6_method_3_code
def y_Sh_sumOfWeights : MethodName := ⟨R_Sh, "sumOfWeights", "()J"⟩
theorem m_Sh_sumOfWeights : hw_mV y_Sh_sumOfWeights b_Sh_sumOfWeights 4 (some .long) 0 := ⟨⟨w_743, w_7, by decide +kernel, by decide +kernel, by decide +kernel⟩, w_741, w_742⟩
abbrev b_Sh_shareOf : ByteArray := prog_6_method_4_code
def y_Sh_shareOf : MethodName := ⟨R_Sh, "shareOf", "(LWallFractions$Whole;I)LWallFractions$Whole;"⟩
theorem m_Sh_shareOf : hw_mV y_Sh_shareOf b_Sh_shareOf 8 (some (.object "WallFractions$Whole")) 2 := ⟨⟨w_748, w_7, by decide +kernel, by decide +kernel, by decide +kernel⟩, w_746, w_747⟩
abbrev b_Sh_rank : ByteArray := prog_6_method_5_code
def y_Sh_rank : MethodName := ⟨R_Sh, "rank", "(I)J"⟩
theorem m_Sh_rank : hw_mV y_Sh_rank b_Sh_rank 5 (some .long) 1 := ⟨⟨w_758, w_7, by decide +kernel, by decide +kernel, by decide +kernel⟩, w_757, TT_sel (q := (⟨"WallFractions$Sharing", "rank", "(I)J"⟩, 7)) 16 (by decide +kernel)⟩
abbrev b_Wh_init : ByteArray := prog_7_method_1_code
def y_Wh_init : MethodName := ⟨R_Wh, "<init>", "()V"⟩
theorem m_Wh_init : hw_mI y_Wh_init b_Wh_init 1 0 := ⟨⟨w_37, w_3, by decide +kernel, by decide +kernel, by decide +kernel⟩, rfl, w_36⟩
abbrev b_Wh_requireRoom : ByteArray := prog_7_method_2_code
def y_Wh_requireRoom : MethodName := ⟨R_Wh, "requireRoom", "(I)V"⟩
theorem m_Wh_requireRoom : hw_mS y_Wh_requireRoom b_Wh_requireRoom 1 none 1 := ⟨⟨w_387, w_3, by decide +kernel, by decide +kernel, by decide +kernel⟩, w_386⟩
abbrev b_Wh_requireDivisor : ByteArray := prog_7_method_3_code
def y_Wh_requireDivisor : MethodName := ⟨R_Wh, "requireDivisor", "(J)V"⟩
theorem m_Wh_requireDivisor : hw_mS y_Wh_requireDivisor b_Wh_requireDivisor 2 none 1 := ⟨⟨w_312, w_3, by decide +kernel, by decide +kernel, by decide +kernel⟩, w_311⟩
abbrev b_Wh_settle : ByteArray := prog_7_method_4_code
def y_Wh_settle : MethodName := ⟨R_Wh, "settle", "(I)V"⟩
theorem m_Wh_settle : hw_mV y_Wh_settle b_Wh_settle 2 none 1 := ⟨⟨w_392, w_3, by decide +kernel, by decide +kernel, by decide +kernel⟩, w_391, TT_sel (q := (⟨"WallFractions$Whole", "settle", "(I)V"⟩, 2)) 2 (by decide +kernel)⟩
abbrev b_Wh_limbAt : ByteArray := prog_7_method_5_code
def y_Wh_limbAt : MethodName := ⟨R_Wh, "limbAt", "(I)J"⟩
theorem m_Wh_limbAt : hw_mV y_Wh_limbAt b_Wh_limbAt 2 (some .long) 1 := ⟨⟨w_421, w_3, by decide +kernel, by decide +kernel, by decide +kernel⟩, w_420, TT_sel (q := (⟨"WallFractions$Whole", "limbAt", "(I)J"⟩, 2)) 3 (by decide +kernel)⟩
abbrev b_Wh_become : ByteArray := prog_7_method_6_code
def y_Wh_become : MethodName := ⟨R_Wh, "become", "(J)V"⟩
theorem m_Wh_become : hw_mV y_Wh_become b_Wh_become 5 none 1 := ⟨⟨w_55, w_3, by decide +kernel, by decide +kernel, by decide +kernel⟩, w_53, w_54⟩
abbrev b_Wh_becomeTenTo : ByteArray := prog_7_method_7_code
def y_Wh_becomeTenTo : MethodName := ⟨R_Wh, "becomeTenTo", "(I)V"⟩
theorem m_Wh_becomeTenTo : hw_mV y_Wh_becomeTenTo b_Wh_becomeTenTo 4 none 1 := ⟨⟨w_599, w_3, by decide +kernel, by decide +kernel, by decide +kernel⟩, w_597, w_598⟩
abbrev b_Wh_copyFrom : ByteArray := prog_7_method_8_code
def y_Wh_copyFrom : MethodName := ⟨R_Wh, "copyFrom", "(LWallFractions$Whole;)V"⟩
theorem m_Wh_copyFrom : hw_mV y_Wh_copyFrom b_Wh_copyFrom 2 none 1 := ⟨⟨w_352, w_3, by decide +kernel, by decide +kernel, by decide +kernel⟩, w_350, w_351⟩
abbrev b_Wh_lowest : ByteArray := prog_7_method_9_code
def y_Wh_lowest : MethodName := ⟨R_Wh, "lowest", "()J"⟩
theorem m_Wh_lowest : hw_mV y_Wh_lowest b_Wh_lowest 1 (some .long) 0 := ⟨⟨w_516, w_3, by decide +kernel, by decide +kernel, by decide +kernel⟩, w_514, w_515⟩
abbrev b_Wh_isZero : ByteArray := prog_7_method_10_code
def y_Wh_isZero : MethodName := ⟨R_Wh, "isZero", "()Z"⟩
theorem m_Wh_isZero : hw_mV y_Wh_isZero b_Wh_isZero 1 (some .boolean) 0 := ⟨⟨w_443, w_3, by decide +kernel, by decide +kernel, by decide +kernel⟩, w_441, w_442⟩
abbrev b_Wh_isOne : ByteArray := prog_7_method_11_code
def y_Wh_isOne : MethodName := ⟨R_Wh, "isOne", "()Z"⟩
theorem m_Wh_isOne : hw_mV y_Wh_isOne b_Wh_isOne 1 (some .boolean) 0 := ⟨⟨w_371, w_3, by decide +kernel, by decide +kernel, by decide +kernel⟩, w_369, w_370⟩
abbrev b_Wh_order : ByteArray := prog_7_method_12_code
def y_Wh_order : MethodName := ⟨R_Wh, "order", "(LWallFractions$Whole;)I"⟩
theorem m_Wh_order : hw_mV y_Wh_order b_Wh_order 3 (some .int) 1 := ⟨⟨w_425, w_3, by decide +kernel, by decide +kernel, by decide +kernel⟩, w_423, w_424⟩
abbrev b_Wh_becomeSum : ByteArray := prog_7_method_13_code
def y_Wh_becomeSum : MethodName := ⟨R_Wh, "becomeSum", "(LWallFractions$Whole;LWallFractions$Whole;)V"⟩
theorem m_Wh_becomeSum : hw_mV y_Wh_becomeSum b_Wh_becomeSum 9 none 2 := ⟨⟨w_414, w_3, by decide +kernel, by decide +kernel, by decide +kernel⟩, w_412, w_413⟩
abbrev b_Wh_becomeDifference : ByteArray := prog_7_method_14_code
def y_Wh_becomeDifference : MethodName := ⟨R_Wh, "becomeDifference", "(LWallFractions$Whole;LWallFractions$Whole;)V"⟩
theorem m_Wh_becomeDifference : hw_mV y_Wh_becomeDifference b_Wh_becomeDifference 9 none 2 := ⟨⟨w_429, w_3, by decide +kernel, by decide +kernel, by decide +kernel⟩, w_427, w_428⟩
abbrev b_Wh_becomeProduct : ByteArray := prog_7_method_15_code
def y_Wh_becomeProduct : MethodName := ⟨R_Wh, "becomeProduct", "(LWallFractions$Whole;LWallFractions$Whole;)V"⟩
theorem m_Wh_becomeProduct : hw_mV y_Wh_becomeProduct b_Wh_becomeProduct 12 none 2 := ⟨⟨w_410, w_3, by decide +kernel, by decide +kernel, by decide +kernel⟩, w_408, w_409⟩
abbrev b_Wh_grow : ByteArray := prog_7_method_16_code
def y_Wh_grow : MethodName := ⟨R_Wh, "grow", "(JJ)V"⟩
theorem m_Wh_grow : hw_mV y_Wh_grow b_Wh_grow 10 none 2 := ⟨⟨w_384, w_3, by decide +kernel, by decide +kernel, by decide +kernel⟩, w_382, w_383⟩
abbrev b_Wh_becomeQuotient : ByteArray := prog_7_method_17_code
def y_Wh_becomeQuotient : MethodName := ⟨R_Wh, "becomeQuotient", "(LWallFractions$Whole;J)J"⟩
theorem m_Wh_becomeQuotient : hw_mV y_Wh_becomeQuotient b_Wh_becomeQuotient 10 (some .long) 2 := ⟨⟨w_475, w_3, by decide +kernel, by decide +kernel, by decide +kernel⟩, w_473, w_474⟩
abbrev b_Wh_restBy : ByteArray := prog_7_method_18_code
def y_Wh_restBy : MethodName := ⟨R_Wh, "restBy", "(J)J"⟩
theorem m_Wh_restBy : hw_mV y_Wh_restBy b_Wh_restBy 6 (some .long) 1 := ⟨⟨w_720, w_3, by decide +kernel, by decide +kernel, by decide +kernel⟩, w_718, w_719⟩
abbrev b_Wh_decimalLength : ByteArray := prog_7_method_19_code
def y_Wh_decimalLength : MethodName := ⟨R_Wh, "decimalLength", "()I"⟩
theorem m_Wh_decimalLength : hw_mV y_Wh_decimalLength b_Wh_decimalLength 1 (some .int) 0 := ⟨⟨w_628, w_3, by decide +kernel, by decide +kernel, by decide +kernel⟩, w_626, w_627⟩
abbrev b_Wh_topLength : ByteArray := prog_7_method_20_code
def y_Wh_topLength : MethodName := ⟨R_Wh, "topLength", "()I"⟩
theorem m_Wh_topLength : hw_mV y_Wh_topLength b_Wh_topLength 4 (some .int) 0 := ⟨⟨w_453, w_3, by decide +kernel, by decide +kernel, by decide +kernel⟩, w_451, w_452⟩
abbrev b_Wh_decimalAt : ByteArray := prog_7_method_21_code
def y_Wh_decimalAt : MethodName := ⟨R_Wh, "decimalAt", "(I)I"⟩
theorem m_Wh_decimalAt : hw_mV y_Wh_decimalAt b_Wh_decimalAt 2 (some .int) 1 := ⟨⟨w_693, w_3, by decide +kernel, by decide +kernel, by decide +kernel⟩, w_691, w_692⟩
abbrev b_La_set : ByteArray := method_3_code
def y_La_set : MethodName := ⟨R_La, "set", "(LWallFractions;IJJ)I"⟩
abbrev b_La_more : ByteArray := method_4_code
def y_La_more : MethodName := ⟨R_La, "more", "(LWallFractions;II)I"⟩
abbrev b_La_add : ByteArray := method_5_code
def y_La_add : MethodName := ⟨R_La, "add", "(LWallFractions;III)I"⟩
abbrev b_La_subtract : ByteArray := method_6_code
def y_La_subtract : MethodName := ⟨R_La, "subtract", "(LWallFractions;III)I"⟩
abbrev b_La_multiply : ByteArray := method_7_code
def y_La_multiply : MethodName := ⟨R_La, "multiply", "(LWallFractions;III)I"⟩
abbrev b_La_divide : ByteArray := method_8_code
def y_La_divide : MethodName := ⟨R_La, "divide", "(LWallFractions;III)I"⟩
abbrev b_La_power : ByteArray := method_9_code
def y_La_power : MethodName := ⟨R_La, "power", "(LWallFractions;III)I"⟩
abbrev b_La_binomial : ByteArray := method_10_code
def y_La_binomial : MethodName := ⟨R_La, "binomial", "(LWallFractions;III)I"⟩
abbrev b_La_round : ByteArray := method_11_code
def y_La_round : MethodName := ⟨R_La, "round", "(LWallFractions;IIII)I"⟩
abbrev b_La_root : ByteArray := method_12_code
def y_La_root : MethodName := ⟨R_La, "root", "(LWallFractions;III)I"⟩
abbrev b_La_compare : ByteArray := method_13_code
def y_La_compare : MethodName := ⟨R_La, "compare", "(LWallFractions;II[J)I"⟩
abbrev b_La_sign : ByteArray := method_14_code
def y_La_sign : MethodName := ⟨R_La, "sign", "(LWallFractions;I[J)I"⟩
abbrev b_La_digits : ByteArray := method_15_code
def y_La_digits : MethodName := ⟨R_La, "digits", "(LWallFractions;II[J)I"⟩
abbrev b_La_digit : ByteArray := method_16_code
def y_La_digit : MethodName := ⟨R_La, "digit", "(LWallFractions;III[J)I"⟩
abbrev b_La_behind : ByteArray := method_17_code
def y_La_behind : MethodName := ⟨R_La, "behind", "(LWallFractions;II[J)I"⟩
abbrev b_La_modulo : ByteArray := method_18_code
def y_La_modulo : MethodName := ⟨R_La, "modulo", "(LWallFractions;III[J)I"⟩
abbrev b_La_weight : ByteArray := method_19_code
def y_La_weight : MethodName := ⟨R_La, "weight", "(LWallFractions;II[J)I"⟩
abbrev b_La_share : ByteArray := method_20_code
def y_La_share : MethodName := ⟨R_La, "share", "(LWallFractions;III)I"⟩
abbrev b_La_law : ByteArray := code
def y_La_law : MethodName := ⟨R_La, "law", "([I)Z"⟩
abbrev b_Mt_abs : ByteArray := prog_15_method_61_code
def y_Mt_abs : MethodName := ⟨R_Mt, "abs", "(J)J"⟩
theorem m_Mt_abs : hw_mS y_Mt_abs b_Mt_abs 2 (some .long) 1 := ⟨⟨w_305, w_14, by decide +kernel, by decide +kernel, by decide +kernel⟩, w_304⟩
abbrev b_Mt_floorDiv : ByteArray := prog_15_method_49_code
def y_Mt_floorDiv : MethodName := ⟨R_Mt, "floorDiv", "(JJ)J"⟩
theorem m_Mt_floorDiv : hw_mS y_Mt_floorDiv b_Mt_floorDiv 6 (some .long) 2 := ⟨⟨w_496, w_14, by decide +kernel, by decide +kernel, by decide +kernel⟩, w_495⟩
abbrev b_Mt_max : ByteArray := prog_15_method_65_code
def y_Mt_max : MethodName := ⟨R_Mt, "max", "(II)I"⟩
theorem m_Mt_max : hw_mS y_Mt_max b_Mt_max 2 (some .int) 2 := ⟨⟨w_417, w_14, by decide +kernel, by decide +kernel, by decide +kernel⟩, w_416⟩
abbrev b_Mt_min : ByteArray := prog_15_method_69_code
def y_Mt_min : MethodName := ⟨R_Mt, "min", "(II)I"⟩
theorem m_Mt_min : hw_mS y_Mt_min b_Mt_min 2 (some .int) 2 := ⟨⟨w_581, w_14, by decide +kernel, by decide +kernel, by decide +kernel⟩, w_580⟩
