theorem woI : Cond.instanceMethod objectInit ∈ rk_T := rk_in 18 (by decide +kernel) rfl
theorem woC : Cond.code objectInit ⟨#[0xb1]⟩ 1 none ∈ rk_T := rk_in 19 rfl rfl
theorem waI : Cond.arrayClass .int ∈ rk_T := rk_in 79 (by decide +kernel) rfl
theorem waZ : Cond.arrayClass .boolean ∈ rk_T := rk_in 80 (by decide +kernel) rfl
theorem woX0 : Cond.methodLink RX0 3 objectInit ∈ rk_T := rk_in 216 (by decide +kernel) rfl
theorem woX1 : Cond.methodLink RX1 3 objectInit ∈ rk_T := rk_in 86 (by decide +kernel) rfl
theorem woX2 : Cond.methodLink RX2 3 objectInit ∈ rk_T := rk_in 25 (by decide +kernel) rfl
theorem woX3 : Cond.methodLink RX3 3 objectInit ∈ rk_T := rk_in 236 (by decide +kernel) rfl
theorem woX4 : Cond.methodLink RX4 3 objectInit ∈ rk_T := rk_in 130 (by decide +kernel) rfl
theorem woX5 : Cond.methodLink RX5 3 objectInit ∈ rk_T := rk_in 200 (by decide +kernel) rfl
theorem woX7 : Cond.methodLink RX7 1 objectInit ∈ rk_T := rk_in 719 (by decide +kernel) rfl
set_option maxRecDepth 20000 in
theorem wdX0_init : Cond.code yX0_init cX0_init 2 none ∈ rk_T := rk_in 215 rfl rfl
theorem wvX0_init : Cond.instanceMethod yX0_init ∈ rk_T := rk_in 214 (by decide +kernel) rfl
theorem npX0_init : yX0_init.cls ≠ "java/lang/invoke/MethodHandle" ∧ yX0_init.cls ≠ "java/lang/invoke/VarHandle" ∧ (parseMethodDescriptor yX0_init.desc).map (fun d => d.parameters.length) = some 1 := by decide +kernel
theorem wbX0 : Cond.instantiable RX0 4 ∈ rk_T := rk_in 212 (by decide +kernel) rfl
set_option maxRecDepth 20000 in
theorem wdX1_init : Cond.code yX1_init cX1_init 2 none ∈ rk_T := rk_in 85 rfl rfl
theorem wvX1_init : Cond.instanceMethod yX1_init ∈ rk_T := rk_in 84 (by decide +kernel) rfl
theorem npX1_init : yX1_init.cls ≠ "java/lang/invoke/MethodHandle" ∧ yX1_init.cls ≠ "java/lang/invoke/VarHandle" ∧ (parseMethodDescriptor yX1_init.desc).map (fun d => d.parameters.length) = some 1 := by decide +kernel
theorem wbX1 : Cond.instantiable RX1 12 ∈ rk_T := rk_in 82 (by decide +kernel) rfl
set_option maxRecDepth 20000 in
theorem wdX2_init : Cond.code yX2_init cX2_init 1 none ∈ rk_T := rk_in 24 rfl rfl
theorem wvX2_init : Cond.instanceMethod yX2_init ∈ rk_T := rk_in 23 (by decide +kernel) rfl
theorem npX2_init : yX2_init.cls ≠ "java/lang/invoke/MethodHandle" ∧ yX2_init.cls ≠ "java/lang/invoke/VarHandle" ∧ (parseMethodDescriptor yX2_init.desc).map (fun d => d.parameters.length) = some 0 := by decide +kernel
theorem wbX2 : Cond.instantiable RX2 10 ∈ rk_T := rk_in 21 (by decide +kernel) rfl
set_option maxRecDepth 20000 in
theorem wdX3_init : Cond.code yX3_init cX3_init 1 none ∈ rk_T := rk_in 235 rfl rfl
theorem wvX3_init : Cond.instanceMethod yX3_init ∈ rk_T := rk_in 234 (by decide +kernel) rfl
theorem npX3_init : yX3_init.cls ≠ "java/lang/invoke/MethodHandle" ∧ yX3_init.cls ≠ "java/lang/invoke/VarHandle" ∧ (parseMethodDescriptor yX3_init.desc).map (fun d => d.parameters.length) = some 0 := by decide +kernel
theorem wbX3 : Cond.instantiable RX3 3 ∈ rk_T := rk_in 232 (by decide +kernel) rfl
set_option maxRecDepth 20000 in
theorem wdX4_init : Cond.code yX4_init cX4_init 3 none ∈ rk_T := rk_in 129 rfl rfl
theorem wvX4_init : Cond.instanceMethod yX4_init ∈ rk_T := rk_in 128 (by decide +kernel) rfl
theorem npX4_init : yX4_init.cls ≠ "java/lang/invoke/MethodHandle" ∧ yX4_init.cls ≠ "java/lang/invoke/VarHandle" ∧ (parseMethodDescriptor yX4_init.desc).map (fun d => d.parameters.length) = some 2 := by decide +kernel
theorem wbX4 : Cond.instantiable RX4 16 ∈ rk_T := rk_in 126 (by decide +kernel) rfl
set_option maxRecDepth 20000 in
theorem wdX5_init : Cond.code yX5_init cX5_init 2 none ∈ rk_T := rk_in 199 rfl rfl
theorem wvX5_init : Cond.instanceMethod yX5_init ∈ rk_T := rk_in 198 (by decide +kernel) rfl
theorem npX5_init : yX5_init.cls ≠ "java/lang/invoke/MethodHandle" ∧ yX5_init.cls ≠ "java/lang/invoke/VarHandle" ∧ (parseMethodDescriptor yX5_init.desc).map (fun d => d.parameters.length) = some 1 := by decide +kernel
theorem wbX5 : Cond.instantiable RX5 3 ∈ rk_T := rk_in 196 (by decide +kernel) rfl
set_option maxRecDepth 20000 in
theorem wdX6_init : Cond.code yX6_init cX6_init 2 none ∈ rk_T := rk_in 16 rfl rfl
theorem wvX6_init : Cond.instanceMethod yX6_init ∈ rk_T := rk_in 15 (by decide +kernel) rfl
theorem npX6_init : yX6_init.cls ≠ "java/lang/invoke/MethodHandle" ∧ yX6_init.cls ≠ "java/lang/invoke/VarHandle" ∧ (parseMethodDescriptor yX6_init.desc).map (fun d => d.parameters.length) = some 0 := by decide +kernel
theorem wbX6 : Cond.instantiable RX6 7 ∈ rk_T := rk_in 13 (by decide +kernel) rfl
set_option maxRecDepth 20000 in
theorem wdX7_init : Cond.code yX7_init cX7_init 1 none ∈ rk_T := rk_in 718 rfl rfl
theorem wvX7_init : Cond.instanceMethod yX7_init ∈ rk_T := rk_in 717 (by decide +kernel) rfl
theorem npX7_init : yX7_init.cls ≠ "java/lang/invoke/MethodHandle" ∧ yX7_init.cls ≠ "java/lang/invoke/VarHandle" ∧ (parseMethodDescriptor yX7_init.desc).map (fun d => d.parameters.length) = some 0 := by decide +kernel
theorem wbX7 : Cond.instantiable RX7 33 ∈ rk_T := rk_in 715 (by decide +kernel) rfl
theorem wlL_7 : Cond.classLink RL 7 RX6 ∈ rk_T := rk_in 12 (by decide +kernel) rfl
theorem wlX6_7 : Cond.classLink RX6 7 RX2 ∈ rk_T := rk_in 20 (by decide +kernel) rfl
theorem wlX6_16 : Cond.classLink RX6 16 RX1 ∈ rk_T := rk_in 81 (by decide +kernel) rfl
theorem wlX6_25 : Cond.classLink RX6 25 RX4 ∈ rk_T := rk_in 125 (by decide +kernel) rfl
theorem wlX6_34 : Cond.classLink RX6 34 RX5 ∈ rk_T := rk_in 195 (by decide +kernel) rfl
theorem wlX6_41 : Cond.classLink RX6 41 RX0 ∈ rk_T := rk_in 211 (by decide +kernel) rfl
theorem wlX6_50 : Cond.classLink RX6 50 RX3 ∈ rk_T := rk_in 230 (by decide +kernel) rfl
theorem wlL_10 : Cond.classLink RL 10 RX7 ∈ rk_T := rk_in 714 (by decide +kernel) rfl
theorem wmX6_18 : Cond.methodLink RX6 18 yX1_init ∈ rk_T := rk_in 83 (by decide +kernel) rfl
theorem wmX6_27 : Cond.methodLink RX6 27 yX4_init ∈ rk_T := rk_in 127 (by decide +kernel) rfl
theorem wmX6_36 : Cond.methodLink RX6 36 yX5_init ∈ rk_T := rk_in 197 (by decide +kernel) rfl
theorem wmX6_43 : Cond.methodLink RX6 43 yX0_init ∈ rk_T := rk_in 213 (by decide +kernel) rfl
theorem woX6 : Cond.methodLink RX6 1 objectInit ∈ rk_T := rk_in 17 (by decide +kernel) rfl
