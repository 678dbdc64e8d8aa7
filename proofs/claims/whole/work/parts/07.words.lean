set_option maxRecDepth 20000 in
theorem iX0 : ∀ w ∈ wsX00, w ∈ rk_T := by decide +kernel
set_option maxRecDepth 20000 in
theorem iX1 : ∀ w ∈ wsX10, w ∈ rk_T := by decide +kernel
set_option maxRecDepth 20000 in
theorem iX2 : ∀ w ∈ wsX20, w ∈ rk_T := by decide +kernel
set_option maxRecDepth 20000 in
theorem iX3 : ∀ w ∈ wsX30, w ∈ rk_T := by decide +kernel
set_option maxRecDepth 20000 in
theorem iX4 : ∀ w ∈ wsX40, w ∈ rk_T := by decide +kernel
set_option maxRecDepth 20000 in
theorem iX5 : ∀ w ∈ wsX50, w ∈ rk_T := by decide +kernel
set_option maxRecDepth 20000 in
theorem iX6 : ∀ w ∈ wsX60, w ∈ rk_T := by decide +kernel
set_option maxRecDepth 20000 in
theorem iX7 : ∀ w ∈ wsX70, w ∈ rk_T := by decide +kernel
theorem wfX1_47 : Cond.fieldLink RX1 47 (TX1 1).1 (TX1 1).2.1 (TX1 1).2.2.1 ∈ rk_T := rk_in 89 (by decide +kernel) rfl
theorem wfX1_63 : Cond.fieldLink RX1 63 (TX2 2).1 (TX2 2).2.1 (TX2 2).2.2.1 ∈ rk_T := rk_in 31 (by decide +kernel) rfl
theorem wfX1_19 : Cond.fieldLink RX1 19 (TX1 3).1 (TX1 3).2.1 (TX1 3).2.2.1 ∈ rk_T := rk_in 91 (by decide +kernel) rfl
theorem wfX1_15 : Cond.fieldLink RX1 15 (TX1 2).1 (TX1 2).2.1 (TX1 2).2.2.1 ∈ rk_T := rk_in 90 (by decide +kernel) rfl
theorem wfX1_110 : Cond.fieldLink RX1 110 (TX2 4).1 (TX2 4).2.1 (TX2 4).2.2.1 ∈ rk_T := rk_in 41 (by decide +kernel) rfl
theorem wfX1_31 : Cond.fieldLink RX1 31 (TX1 7).1 (TX1 7).2.1 (TX1 7).2.2.1 ∈ rk_T := rk_in 95 (by decide +kernel) rfl
theorem wfX1_34 : Cond.fieldLink RX1 34 (TX1 8).1 (TX1 8).2.1 (TX1 8).2.2.1 ∈ rk_T := rk_in 96 (by decide +kernel) rfl
theorem wfX1_37 : Cond.fieldLink RX1 37 (TX1 9).1 (TX1 9).2.1 (TX1 9).2.2.1 ∈ rk_T := rk_in 97 (by decide +kernel) rfl
theorem wfX1_22 : Cond.fieldLink RX1 22 (TX1 4).1 (TX1 4).2.1 (TX1 4).2.2.1 ∈ rk_T := rk_in 92 (by decide +kernel) rfl
theorem wfX1_25 : Cond.fieldLink RX1 25 (TX1 5).1 (TX1 5).2.1 (TX1 5).2.2.1 ∈ rk_T := rk_in 93 (by decide +kernel) rfl
theorem wfX1_28 : Cond.fieldLink RX1 28 (TX1 6).1 (TX1 6).2.1 (TX1 6).2.2.1 ∈ rk_T := rk_in 94 (by decide +kernel) rfl
theorem wjX1_113 : Cond.constantLong RX1 113 (2) ∈ rk_T := rk_in 359 (by decide +kernel) rfl
theorem wfX2_33 : Cond.fieldLink RX2 33 (TX2 7).1 (TX2 7).2.1 (TX2 7).2.2.1 ∈ rk_T := rk_in 49 (by decide +kernel) rfl
theorem wfX2_37 : Cond.fieldLink RX2 37 (TX2 8).1 (TX2 8).2.1 (TX2 8).2.2.1 ∈ rk_T := rk_in 52 (by decide +kernel) rfl
theorem wfX2_40 : Cond.fieldLink RX2 40 (TX2 9).1 (TX2 9).2.1 (TX2 9).2.2.1 ∈ rk_T := rk_in 57 (by decide +kernel) rfl
theorem wfX2_18 : Cond.fieldLink RX2 18 (TX2 2).1 (TX2 2).2.1 (TX2 2).2.2.1 ∈ rk_T := rk_in 30 (by decide +kernel) rfl
theorem wfX2_21 : Cond.fieldLink RX2 21 (TX2 3).1 (TX2 3).2.1 (TX2 3).2.2.1 ∈ rk_T := rk_in 35 (by decide +kernel) rfl
theorem wfX2_9 : Cond.fieldLink RX2 9 (TX2 0).1 (TX2 0).2.1 (TX2 0).2.2.1 ∈ rk_T := rk_in 26 (by decide +kernel) rfl
theorem wfX2_15 : Cond.fieldLink RX2 15 (TX2 1).1 (TX2 1).2.1 (TX2 1).2.2.1 ∈ rk_T := rk_in 28 (by decide +kernel) rfl
theorem wfX2_30 : Cond.fieldLink RX2 30 (TX2 6).1 (TX2 6).2.1 (TX2 6).2.2.1 ∈ rk_T := rk_in 45 (by decide +kernel) rfl
theorem wfX2_24 : Cond.fieldLink RX2 24 (TX2 4).1 (TX2 4).2.1 (TX2 4).2.2.1 ∈ rk_T := rk_in 39 (by decide +kernel) rfl
theorem wfX3_9 : Cond.fieldLink RX3 9 (TX3 0).1 (TX3 0).2.1 (TX3 0).2.2.1 ∈ rk_T := rk_in 237 (by decide +kernel) rfl
theorem wfX3_15 : Cond.fieldLink RX3 15 (TX3 1).1 (TX3 1).2.1 (TX3 1).2.2.1 ∈ rk_T := rk_in 239 (by decide +kernel) rfl
theorem wfX3_19 : Cond.fieldLink RX3 19 (TX3 2).1 (TX3 2).2.1 (TX3 2).2.2.1 ∈ rk_T := rk_in 241 (by decide +kernel) rfl
theorem wfX4_45 : Cond.fieldLink RX4 45 (TX4 11).1 (TX4 11).2.1 (TX4 11).2.2.1 ∈ rk_T := rk_in 154 (by decide +kernel) rfl
theorem wfX4_27 : Cond.fieldLink RX4 27 (TX4 5).1 (TX4 5).2.1 (TX4 5).2.2.1 ∈ rk_T := rk_in 141 (by decide +kernel) rfl
theorem wfX4_33 : Cond.fieldLink RX4 33 (TX4 7).1 (TX4 7).2.1 (TX4 7).2.2.1 ∈ rk_T := rk_in 145 (by decide +kernel) rfl
theorem wfX4_42 : Cond.fieldLink RX4 42 (TX4 10).1 (TX4 10).2.1 (TX4 10).2.2.1 ∈ rk_T := rk_in 152 (by decide +kernel) rfl
theorem wfX4_39 : Cond.fieldLink RX4 39 (TX4 9).1 (TX4 9).2.1 (TX4 9).2.2.1 ∈ rk_T := rk_in 149 (by decide +kernel) rfl
theorem wfX4_24 : Cond.fieldLink RX4 24 (TX4 4).1 (TX4 4).2.1 (TX4 4).2.2.1 ∈ rk_T := rk_in 140 (by decide +kernel) rfl
theorem wfX5_18 : Cond.fieldLink RX5 18 (TX5 0).1 (TX5 0).2.1 (TX5 0).2.2.1 ∈ rk_T := rk_in 201 (by decide +kernel) rfl
theorem wfX5_44 : Cond.fieldLink RX5 44 (TX2 2).1 (TX2 2).2.1 (TX2 2).2.2.1 ∈ rk_T := rk_in 32 (by decide +kernel) rfl
theorem wfX5_47 : Cond.fieldLink RX5 47 (TX2 3).1 (TX2 3).2.1 (TX2 3).2.2.1 ∈ rk_T := rk_in 36 (by decide +kernel) rfl
theorem wfX5_15 : Cond.fieldLink RX5 15 (TX5 2).1 (TX5 2).2.1 (TX5 2).2.2.1 ∈ rk_T := rk_in 203 (by decide +kernel) rfl
theorem wfX6_30 : Cond.fieldLink RX6 30 (TX6 2).1 (TX6 2).2.1 (TX6 2).2.2.1 ∈ rk_T := rk_in 252 (by decide +kernel) rfl
theorem wfX6_172 : Cond.fieldLink RX6 172 (TX4 11).1 (TX4 11).2.1 (TX4 11).2.2.1 ∈ rk_T := rk_in 156 (by decide +kernel) rfl
theorem wfX6_178 : Cond.fieldLink RX6 178 (TX4 10).1 (TX4 10).2.1 (TX4 10).2.2.1 ∈ rk_T := rk_in 153 (by decide +kernel) rfl
theorem wfX6_175 : Cond.fieldLink RX6 175 (TX4 7).1 (TX4 7).2.1 (TX4 7).2.2.1 ∈ rk_T := rk_in 146 (by decide +kernel) rfl
theorem wjX6_310 : Cond.constantLong RX6 310 (31) ∈ rk_T := rk_in 692 (by decide +kernel) rfl
theorem wfX6_57 : Cond.fieldLink RX6 57 (TX6 6).1 (TX6 6).2.1 (TX6 6).2.2.1 ∈ rk_T := rk_in 256 (by decide +kernel) rfl
theorem wcJ6_265 : Cond.constant RJ6 265 (1431655765) ∈ rk_T := rk_in 504 (by decide +kernel) rfl
theorem wcJ6_266 : Cond.constant RJ6 266 (858993459) ∈ rk_T := rk_in 505 (by decide +kernel) rfl
theorem wcJ6_267 : Cond.constant RJ6 267 (252645135) ∈ rk_T := rk_in 506 (by decide +kernel) rfl
theorem npX1_isOpenAtSecond : yX1_isOpenAtSecond.cls ≠ "java/lang/invoke/MethodHandle" ∧ yX1_isOpenAtSecond.cls ≠ "java/lang/invoke/VarHandle" ∧ (parseMethodDescriptor yX1_isOpenAtSecond.desc).map (fun d => d.parameters.length) = some 1 := by decide +kernel
set_option maxRecDepth 20000 in
theorem wdX1_isOpenAtSecond : Cond.code yX1_isOpenAtSecond cX1_isOpenAtSecond 2 (some .boolean) ∈ rk_T := rk_in 387 rfl rfl
theorem wiX1 : Cond.initialized RX1 ∈ rk_T := rk_in 3 (by decide +kernel) rfl
theorem wvX1_isOpenAtSecond : Cond.instanceMethod yX1_isOpenAtSecond ∈ rk_T := rk_in 385 (by decide +kernel) rfl
theorem weX1_isOpenAtSecond : Cond.selects RX1 yX1_isOpenAtSecond yX1_isOpenAtSecond ∈ rk_T := rk_in 386 (by decide +kernel) rfl
theorem wmX1_70 : Cond.methodLink RX1 70 yX1_isOpenAtSecond ∈ rk_T := rk_in 384 (by decide +kernel) rfl
theorem npX1_isOpenAtFirst : yX1_isOpenAtFirst.cls ≠ "java/lang/invoke/MethodHandle" ∧ yX1_isOpenAtFirst.cls ≠ "java/lang/invoke/VarHandle" ∧ (parseMethodDescriptor yX1_isOpenAtFirst.desc).map (fun d => d.parameters.length) = some 1 := by decide +kernel
set_option maxRecDepth 20000 in
theorem wdX1_isOpenAtFirst : Cond.code yX1_isOpenAtFirst cX1_isOpenAtFirst 2 (some .boolean) ∈ rk_T := rk_in 383 rfl rfl
theorem wvX1_isOpenAtFirst : Cond.instanceMethod yX1_isOpenAtFirst ∈ rk_T := rk_in 381 (by decide +kernel) rfl
theorem weX1_isOpenAtFirst : Cond.selects RX1 yX1_isOpenAtFirst yX1_isOpenAtFirst ∈ rk_T := rk_in 382 (by decide +kernel) rfl
theorem wmX1_66 : Cond.methodLink RX1 66 yX1_isOpenAtFirst ∈ rk_T := rk_in 380 (by decide +kernel) rfl
theorem npX1_isWide : yX1_isWide.cls ≠ "java/lang/invoke/MethodHandle" ∧ yX1_isWide.cls ≠ "java/lang/invoke/VarHandle" ∧ (parseMethodDescriptor yX1_isWide.desc).map (fun d => d.parameters.length) = some 2 := by decide +kernel
set_option maxRecDepth 20000 in
theorem wdX1_isWide : Cond.code yX1_isWide cX1_isWide 4 (some .boolean) ∈ rk_T := rk_in 358 rfl rfl
theorem wtX1_isWide : Cond.static yX1_isWide ∈ rk_T := rk_in 357 (by decide +kernel) rfl
theorem wmX1_82 : Cond.methodLink RX1 82 yX1_isWide ∈ rk_T := rk_in 356 (by decide +kernel) rfl
theorem npX1_product : yX1_product.cls ≠ "java/lang/invoke/MethodHandle" ∧ yX1_product.cls ≠ "java/lang/invoke/VarHandle" ∧ (parseMethodDescriptor yX1_product.desc).map (fun d => d.parameters.length) = some 4 := by decide +kernel
set_option maxRecDepth 20000 in
theorem wdX1_product : Cond.code yX1_product cX1_product 4 (some .long) ∈ rk_T := rk_in 355 rfl rfl
theorem wtX1_product : Cond.static yX1_product ∈ rk_T := rk_in 354 (by decide +kernel) rfl
theorem wmX1_78 : Cond.methodLink RX1 78 yX1_product ∈ rk_T := rk_in 353 (by decide +kernel) rfl
theorem npX2_stepY : yX2_stepY.cls ≠ "java/lang/invoke/MethodHandle" ∧ yX2_stepY.cls ≠ "java/lang/invoke/VarHandle" ∧ (parseMethodDescriptor yX2_stepY.desc).map (fun d => d.parameters.length) = some 2 := by decide +kernel
set_option maxRecDepth 20000 in
theorem wdX2_stepY : Cond.code yX2_stepY cX2_stepY 3 (some .int) ∈ rk_T := rk_in 340 rfl rfl
theorem wiX2 : Cond.initialized RX2 ∈ rk_T := rk_in 2 (by decide +kernel) rfl
theorem wvX2_stepY : Cond.instanceMethod yX2_stepY ∈ rk_T := rk_in 338 (by decide +kernel) rfl
theorem weX2_stepY : Cond.selects RX2 yX2_stepY yX2_stepY ∈ rk_T := rk_in 339 (by decide +kernel) rfl
theorem wmX1_76 : Cond.methodLink RX1 76 yX2_stepY ∈ rk_T := rk_in 337 (by decide +kernel) rfl
theorem npX2_stepX : yX2_stepX.cls ≠ "java/lang/invoke/MethodHandle" ∧ yX2_stepX.cls ≠ "java/lang/invoke/VarHandle" ∧ (parseMethodDescriptor yX2_stepX.desc).map (fun d => d.parameters.length) = some 2 := by decide +kernel
set_option maxRecDepth 20000 in
theorem wdX2_stepX : Cond.code yX2_stepX cX2_stepX 3 (some .int) ∈ rk_T := rk_in 336 rfl rfl
theorem wvX2_stepX : Cond.instanceMethod yX2_stepX ∈ rk_T := rk_in 334 (by decide +kernel) rfl
theorem weX2_stepX : Cond.selects RX2 yX2_stepX yX2_stepX ∈ rk_T := rk_in 335 (by decide +kernel) rfl
theorem wmX1_73 : Cond.methodLink RX1 73 yX2_stepX ∈ rk_T := rk_in 333 (by decide +kernel) rfl
theorem wfX1_51 : Cond.fieldLink RX1 51 (TX2 8).1 (TX2 8).2.1 (TX2 8).2.2.1 ∈ rk_T := rk_in 53 (by decide +kernel) rfl
theorem npX2_isThere : yX2_isThere.cls ≠ "java/lang/invoke/MethodHandle" ∧ yX2_isThere.cls ≠ "java/lang/invoke/VarHandle" ∧ (parseMethodDescriptor yX2_isThere.desc).map (fun d => d.parameters.length) = some 2 := by decide +kernel
set_option maxRecDepth 20000 in
theorem wdX2_isThere : Cond.code yX2_isThere cX2_isThere 3 (some .boolean) ∈ rk_T := rk_in 312 rfl rfl
theorem wvX2_isThere : Cond.instanceMethod yX2_isThere ∈ rk_T := rk_in 310 (by decide +kernel) rfl
theorem weX2_isThere : Cond.selects RX2 yX2_isThere yX2_isThere ∈ rk_T := rk_in 311 (by decide +kernel) rfl
theorem wmX1_99 : Cond.methodLink RX1 99 yX2_isThere ∈ rk_T := rk_in 332 (by decide +kernel) rfl
theorem wfX1_40 : Cond.fieldLink RX1 40 (TX1 10).1 (TX1 10).2.1 (TX1 10).2.2.1 ∈ rk_T := rk_in 98 (by decide +kernel) rfl
theorem wfX1_44 : Cond.fieldLink RX1 44 (TX1 11).1 (TX1 11).2.1 (TX1 11).2.2.1 ∈ rk_T := rk_in 99 (by decide +kernel) rfl
theorem npX2_isTaken : yX2_isTaken.cls ≠ "java/lang/invoke/MethodHandle" ∧ yX2_isTaken.cls ≠ "java/lang/invoke/VarHandle" ∧ (parseMethodDescriptor yX2_isTaken.desc).map (fun d => d.parameters.length) = some 2 := by decide +kernel
set_option maxRecDepth 20000 in
theorem wdX2_isTaken : Cond.code yX2_isTaken cX2_isTaken 4 (some .boolean) ∈ rk_T := rk_in 286 rfl rfl
theorem wvX2_isTaken : Cond.instanceMethod yX2_isTaken ∈ rk_T := rk_in 285 (by decide +kernel) rfl
theorem weX2_isTaken : Cond.selects RX2 yX2_isTaken yX2_isTaken ∈ rk_T := rk_inS 0 (by decide +kernel) rfl
theorem wmX2_48 : Cond.methodLink RX2 48 yX2_isTaken ∈ rk_T := rk_in 283 (by decide +kernel) rfl
theorem npX6_isPlace : yX6_isPlace.cls ≠ "java/lang/invoke/MethodHandle" ∧ yX6_isPlace.cls ≠ "java/lang/invoke/VarHandle" ∧ (parseMethodDescriptor yX6_isPlace.desc).map (fun d => d.parameters.length) = some 1 := by decide +kernel
set_option maxRecDepth 20000 in
theorem wdX6_isPlace : Cond.code yX6_isPlace cX6_isPlace 1 (some .boolean) ∈ rk_T := rk_in 282 rfl rfl
theorem wiX6 : Cond.initialized RX6 ∈ rk_T := rk_in 1 (by decide +kernel) rfl
theorem wtX6_isPlace : Cond.static yX6_isPlace ∈ rk_T := rk_in 281 (by decide +kernel) rfl
theorem wnX2_44 : (RX2, 44, yX6_isPlace) ∈ rk_nest := by decide +kernel
theorem wmX2_70 : Cond.methodLink RX2 70 yX2_isThere ∈ rk_T := rk_in 309 (by decide +kernel) rfl
theorem npX3_isLost : yX3_isLost.cls ≠ "java/lang/invoke/MethodHandle" ∧ yX3_isLost.cls ≠ "java/lang/invoke/VarHandle" ∧ (parseMethodDescriptor yX3_isLost.desc).map (fun d => d.parameters.length) = some 0 := by decide +kernel
set_option maxRecDepth 20000 in
theorem wdX3_isLost : Cond.code yX3_isLost cX3_isLost 1 (some .boolean) ∈ rk_T := rk_in 457 rfl rfl
theorem wiX3 : Cond.initialized RX3 ∈ rk_T := rk_in 7 (by decide +kernel) rfl
theorem wvX3_isLost : Cond.instanceMethod yX3_isLost ∈ rk_T := rk_in 455 (by decide +kernel) rfl
theorem weX3_isLost : Cond.selects RX3 yX3_isLost yX3_isLost ∈ rk_T := rk_in 456 (by decide +kernel) rfl
theorem wmX3_22 : Cond.methodLink RX3 22 yX3_isLost ∈ rk_T := rk_in 640 (by decide +kernel) rfl
theorem wfX4_15 : Cond.fieldLink RX4 15 (TX4 1).1 (TX4 1).2.1 (TX4 1).2.2.1 ∈ rk_T := rk_in 133 (by decide +kernel) rfl
theorem npX6_hasBit : yX6_hasBit.cls ≠ "java/lang/invoke/MethodHandle" ∧ yX6_hasBit.cls ≠ "java/lang/invoke/VarHandle" ∧ (parseMethodDescriptor yX6_hasBit.desc).map (fun d => d.parameters.length) = some 2 := by decide +kernel
set_option maxRecDepth 20000 in
theorem wdX6_hasBit : Cond.code yX6_hasBit cX6_hasBit 2 (some .boolean) ∈ rk_T := rk_in 390 rfl rfl
theorem wtX6_hasBit : Cond.static yX6_hasBit ∈ rk_T := rk_in 389 (by decide +kernel) rfl
theorem wnX4_77 : (RX4, 77, yX6_hasBit) ∈ rk_nest := by decide +kernel
theorem wfX4_18 : Cond.fieldLink RX4 18 (TX4 2).1 (TX4 2).2.1 (TX4 2).2.2.1 ∈ rk_T := rk_in 135 (by decide +kernel) rfl
theorem npX4_isClosed : yX4_isClosed.cls ≠ "java/lang/invoke/MethodHandle" ∧ yX4_isClosed.cls ≠ "java/lang/invoke/VarHandle" ∧ (parseMethodDescriptor yX4_isClosed.desc).map (fun d => d.parameters.length) = some 1 := by decide +kernel
set_option maxRecDepth 20000 in
theorem wdX4_isClosed : Cond.code yX4_isClosed cX4_isClosed 2 (some .boolean) ∈ rk_T := rk_in 510 rfl rfl
theorem wiX4 : Cond.initialized RX4 ∈ rk_T := rk_in 4 (by decide +kernel) rfl
theorem wvX4_isClosed : Cond.instanceMethod yX4_isClosed ∈ rk_T := rk_in 508 (by decide +kernel) rfl
theorem weX4_isClosed : Cond.selects RX4 yX4_isClosed yX4_isClosed ∈ rk_T := rk_in 509 (by decide +kernel) rfl
theorem wmX4_81 : Cond.methodLink RX4 81 yX4_isClosed ∈ rk_T := rk_in 678 (by decide +kernel) rfl
theorem wfX4_59 : Cond.fieldLink RX4 59 (TX4 14).1 (TX4 14).2.1 (TX4 14).2.2.1 ∈ rk_T := rk_in 160 (by decide +kernel) rfl
theorem wmX4_123 : Cond.methodLink RX4 123 yX1_isOpenAtSecond ∈ rk_T := rk_in 412 (by decide +kernel) rfl
theorem wfX4_55 : Cond.fieldLink RX4 55 (TX4 13).1 (TX4 13).2.1 (TX4 13).2.2.1 ∈ rk_T := rk_in 159 (by decide +kernel) rfl
theorem wfX4_106 : Cond.fieldLink RX4 106 (TX2 2).1 (TX2 2).2.1 (TX2 2).2.2.1 ∈ rk_T := rk_in 34 (by decide +kernel) rfl
theorem wfX4_109 : Cond.fieldLink RX4 109 (TX2 3).1 (TX2 3).2.1 (TX2 3).2.2.1 ∈ rk_T := rk_in 38 (by decide +kernel) rfl
theorem wfX4_112 : Cond.fieldLink RX4 112 (TX2 6).1 (TX2 6).2.1 (TX2 6).2.2.1 ∈ rk_T := rk_in 48 (by decide +kernel) rfl
theorem wfX4_21 : Cond.fieldLink RX4 21 (TX4 3).1 (TX4 3).2.1 (TX4 3).2.2.1 ∈ rk_T := rk_in 137 (by decide +kernel) rfl
theorem wfX4_113 : Cond.fieldLink RX4 113 (TX2 5).1 (TX2 5).2.1 (TX2 5).2.2.1 ∈ rk_T := rk_in 44 (by decide +kernel) rfl
theorem wmX4_120 : Cond.methodLink RX4 120 yX1_isOpenAtFirst ∈ rk_T := rk_in 411 (by decide +kernel) rfl
theorem npX2_worthOf : yX2_worthOf.cls ≠ "java/lang/invoke/MethodHandle" ∧ yX2_worthOf.cls ≠ "java/lang/invoke/VarHandle" ∧ (parseMethodDescriptor yX2_worthOf.desc).map (fun d => d.parameters.length) = some 2 := by decide +kernel
set_option maxRecDepth 20000 in
theorem wdX2_worthOf : Cond.code yX2_worthOf cX2_worthOf 4 (some .int) ∈ rk_T := rk_in 410 rfl rfl
theorem wvX2_worthOf : Cond.instanceMethod yX2_worthOf ∈ rk_T := rk_in 408 (by decide +kernel) rfl
theorem weX2_worthOf : Cond.selects RX2 yX2_worthOf yX2_worthOf ∈ rk_T := rk_in 409 (by decide +kernel) rfl
theorem wmX4_116 : Cond.methodLink RX4 116 yX2_worthOf ∈ rk_T := rk_in 407 (by decide +kernel) rfl
theorem wfX5_31 : Cond.fieldLink RX5 31 (TX2 8).1 (TX2 8).2.1 (TX2 8).2.2.1 ∈ rk_T := rk_in 54 (by decide +kernel) rfl
theorem wfX5_50 : Cond.fieldLink RX5 50 (TX2 6).1 (TX2 6).2.1 (TX2 6).2.2.1 ∈ rk_T := rk_in 46 (by decide +kernel) rfl
theorem wfX5_9 : Cond.fieldLink RX5 9 (TX5 1).1 (TX5 1).2.1 (TX5 1).2.2.1 ∈ rk_T := rk_in 202 (by decide +kernel) rfl
theorem wnX5_37 : (RX5, 37, yX6_hasBit) ∈ rk_nest := by decide +kernel
theorem npX5_flip : yX5_flip.cls ≠ "java/lang/invoke/MethodHandle" ∧ yX5_flip.cls ≠ "java/lang/invoke/VarHandle" ∧ (parseMethodDescriptor yX5_flip.desc).map (fun d => d.parameters.length) = some 1 := by decide +kernel
set_option maxRecDepth 20000 in
theorem wdX5_flip : Cond.code yX5_flip cX5_flip 4 none ∈ rk_T := rk_in 590 rfl rfl
theorem wiX5 : Cond.initialized RX5 ∈ rk_T := rk_in 5 (by decide +kernel) rfl
theorem wvX5_flip : Cond.instanceMethod yX5_flip ∈ rk_T := rk_in 589 (by decide +kernel) rfl
theorem weX5_flip : Cond.selects RX5 yX5_flip yX5_flip ∈ rk_T := rk_inS 22 (by decide +kernel) rfl
theorem wmX5_53 : Cond.methodLink RX5 53 yX5_flip ∈ rk_T := rk_in 587 (by decide +kernel) rfl
theorem wfX6_10 : Cond.fieldLink RX6 10 (TX6 0).1 (TX6 0).2.1 (TX6 0).2.2.1 ∈ rk_T := rk_in 250 (by decide +kernel) rfl
theorem wfX6_122 : Cond.fieldLink RX6 122 (TX2 2).1 (TX2 2).2.1 (TX2 2).2.2.1 ∈ rk_T := rk_in 33 (by decide +kernel) rfl
theorem wfX6_125 : Cond.fieldLink RX6 125 (TX2 3).1 (TX2 3).2.1 (TX2 3).2.2.1 ∈ rk_T := rk_in 37 (by decide +kernel) rfl
theorem wfX6_83 : Cond.fieldLink RX6 83 (TX2 4).1 (TX2 4).2.1 (TX2 4).2.2.1 ∈ rk_T := rk_in 40 (by decide +kernel) rfl
theorem wfX6_90 : Cond.fieldLink RX6 90 (TX2 5).1 (TX2 5).2.1 (TX2 5).2.2.1 ∈ rk_T := rk_in 43 (by decide +kernel) rfl
theorem wfX6_128 : Cond.fieldLink RX6 128 (TX2 6).1 (TX2 6).2.1 (TX2 6).2.2.1 ∈ rk_T := rk_in 47 (by decide +kernel) rfl
theorem wmX6_131 : Cond.methodLink RX6 131 yX2_worthOf ∈ rk_T := rk_in 475 (by decide +kernel) rfl
theorem wfX6_134 : Cond.fieldLink RX6 134 (TX4 0).1 (TX4 0).2.1 (TX4 0).2.2.1 ∈ rk_T := rk_in 132 (by decide +kernel) rfl
theorem npX2_hasRoad : yX2_hasRoad.cls ≠ "java/lang/invoke/MethodHandle" ∧ yX2_hasRoad.cls ≠ "java/lang/invoke/VarHandle" ∧ (parseMethodDescriptor yX2_hasRoad.desc).map (fun d => d.parameters.length) = some 1 := by decide +kernel
set_option maxRecDepth 20000 in
theorem wdX2_hasRoad : Cond.code yX2_hasRoad cX2_hasRoad 2 (some .boolean) ∈ rk_T := rk_in 444 rfl rfl
theorem wvX2_hasRoad : Cond.instanceMethod yX2_hasRoad ∈ rk_T := rk_in 442 (by decide +kernel) rfl
theorem weX2_hasRoad : Cond.selects RX2 yX2_hasRoad yX2_hasRoad ∈ rk_T := rk_in 443 (by decide +kernel) rfl
theorem wmX6_76 : Cond.methodLink RX6 76 yX2_hasRoad ∈ rk_T := rk_in 441 (by decide +kernel) rfl
theorem wfX6_21 : Cond.fieldLink RX6 21 (TX6 1).1 (TX6 1).2.1 (TX6 1).2.2.1 ∈ rk_T := rk_in 251 (by decide +kernel) rfl
theorem npX1_partner : yX1_partner.cls ≠ "java/lang/invoke/MethodHandle" ∧ yX1_partner.cls ≠ "java/lang/invoke/VarHandle" ∧ (parseMethodDescriptor yX1_partner.desc).map (fun d => d.parameters.length) = some 2 := by decide +kernel
set_option maxRecDepth 20000 in
theorem wdX1_partner : Cond.code yX1_partner cX1_partner 3 (some .int) ∈ rk_T := rk_in 484 rfl rfl
theorem wvX1_partner : Cond.instanceMethod yX1_partner ∈ rk_T := rk_in 482 (by decide +kernel) rfl
theorem weX1_partner : Cond.selects RX1 yX1_partner yX1_partner ∈ rk_T := rk_in 483 (by decide +kernel) rfl
theorem wmX6_141 : Cond.methodLink RX6 141 yX1_partner ∈ rk_T := rk_in 481 (by decide +kernel) rfl
theorem wmX6_137 : Cond.methodLink RX6 137 yX2_isThere ∈ rk_T := rk_in 480 (by decide +kernel) rfl
theorem npX2_hasMeeting : yX2_hasMeeting.cls ≠ "java/lang/invoke/MethodHandle" ∧ yX2_hasMeeting.cls ≠ "java/lang/invoke/VarHandle" ∧ (parseMethodDescriptor yX2_hasMeeting.desc).map (fun d => d.parameters.length) = some 1 := by decide +kernel
set_option maxRecDepth 20000 in
theorem wdX2_hasMeeting : Cond.code yX2_hasMeeting cX2_hasMeeting 2 (some .boolean) ∈ rk_T := rk_in 298 rfl rfl
theorem wvX2_hasMeeting : Cond.instanceMethod yX2_hasMeeting ∈ rk_T := rk_in 296 (by decide +kernel) rfl
theorem weX2_hasMeeting : Cond.selects RX2 yX2_hasMeeting yX2_hasMeeting ∈ rk_T := rk_in 297 (by decide +kernel) rfl
theorem wmX6_110 : Cond.methodLink RX6 110 yX2_hasMeeting ∈ rk_T := rk_in 466 (by decide +kernel) rfl
theorem wfX6_151 : Cond.fieldLink RX6 151 (TX4 1).1 (TX4 1).2.1 (TX4 1).2.2.1 ∈ rk_T := rk_in 134 (by decide +kernel) rfl
theorem npJ6_bitCount_0f7a4 : yJ6_bitCount_0f7a4.cls ≠ "java/lang/invoke/MethodHandle" ∧ yJ6_bitCount_0f7a4.cls ≠ "java/lang/invoke/VarHandle" ∧ (parseMethodDescriptor yJ6_bitCount_0f7a4.desc).map (fun d => d.parameters.length) = some 1 := by decide +kernel
set_option maxRecDepth 20000 in
theorem wdJ6_bitCount_0f7a4 : Cond.code yJ6_bitCount_0f7a4 cJ6_bitCount_0f7a4 1 (some .int) ∈ rk_T := rk_in 503 rfl rfl
theorem wiJ6 : Cond.initialized RJ6 ∈ rk_T := rk_in 10 (by decide +kernel) rfl
theorem wtJ6_bitCount_0f7a4 : Cond.static yJ6_bitCount_0f7a4 ∈ rk_T := rk_in 502 (by decide +kernel) rfl
theorem wmX6_154 : Cond.methodLink RX6 154 yJ6_bitCount_0f7a4 ∈ rk_T := rk_in 501 (by decide +kernel) rfl
theorem wfX6_159 : Cond.fieldLink RX6 159 (TX4 2).1 (TX4 2).2.1 (TX4 2).2.2.1 ∈ rk_T := rk_in 136 (by decide +kernel) rfl
theorem wfX6_160 : Cond.fieldLink RX6 160 (TX4 3).1 (TX4 3).2.1 (TX4 3).2.2.1 ∈ rk_T := rk_in 139 (by decide +kernel) rfl
theorem wmX6_163 : Cond.methodLink RX6 163 yX4_isClosed ∈ rk_T := rk_in 507 (by decide +kernel) rfl
theorem wfX6_166 : Cond.fieldLink RX6 166 (TX4 8).1 (TX4 8).2.1 (TX4 8).2.2.1 ∈ rk_T := rk_in 148 (by decide +kernel) rfl
theorem wfX6_169 : Cond.fieldLink RX6 169 (TX4 9).1 (TX4 9).2.1 (TX4 9).2.2.1 ∈ rk_T := rk_in 151 (by decide +kernel) rfl
theorem npX4_has : yX4_has.cls ≠ "java/lang/invoke/MethodHandle" ∧ yX4_has.cls ≠ "java/lang/invoke/VarHandle" ∧ (parseMethodDescriptor yX4_has.desc).map (fun d => d.parameters.length) = some 1 := by decide +kernel
set_option maxRecDepth 20000 in
theorem wdX4_has : Cond.code yX4_has cX4_has 2 (some .boolean) ∈ rk_T := rk_in 500 rfl rfl
theorem wvX4_has : Cond.instanceMethod yX4_has ∈ rk_T := rk_in 498 (by decide +kernel) rfl
theorem weX4_has : Cond.selects RX4 yX4_has yX4_has ∈ rk_T := rk_in 499 (by decide +kernel) rfl
theorem wmX6_148 : Cond.methodLink RX6 148 yX4_has ∈ rk_T := rk_in 497 (by decide +kernel) rfl
theorem wfX6_52 : Cond.fieldLink RX6 52 (TX6 5).1 (TX6 5).2.1 (TX6 5).2.2.1 ∈ rk_T := rk_in 255 (by decide +kernel) rfl
theorem npX3_begin : yX3_begin.cls ≠ "java/lang/invoke/MethodHandle" ∧ yX3_begin.cls ≠ "java/lang/invoke/VarHandle" ∧ (parseMethodDescriptor yX3_begin.desc).map (fun d => d.parameters.length) = some 2 := by decide +kernel
set_option maxRecDepth 20000 in
theorem wdX3_begin : Cond.code yX3_begin cX3_begin 4 none ∈ rk_T := rk_in 623 rfl rfl
theorem wvX3_begin : Cond.instanceMethod yX3_begin ∈ rk_T := rk_in 621 (by decide +kernel) rfl
theorem weX3_begin : Cond.selects RX3 yX3_begin yX3_begin ∈ rk_T := rk_in 622 (by decide +kernel) rfl
theorem wmX6_215 : Cond.methodLink RX6 215 yX3_begin ∈ rk_T := rk_in 620 (by decide +kernel) rfl
theorem npX6_found : yX6_found.cls ≠ "java/lang/invoke/MethodHandle" ∧ yX6_found.cls ≠ "java/lang/invoke/VarHandle" ∧ (parseMethodDescriptor yX6_found.desc).map (fun d => d.parameters.length) = some 1 := by decide +kernel
set_option maxRecDepth 20000 in
theorem wdX6_found : Cond.code yX6_found cX6_found 2 (some .int) ∈ rk_T := rk_in 461 rfl rfl
theorem wvX6_found : Cond.instanceMethod yX6_found ∈ rk_T := rk_in 460 (by decide +kernel) rfl
theorem weX6_found : Cond.selects RX6 yX6_found yX6_found ∈ rk_T := rk_inS 16 (by decide +kernel) rfl
theorem wmX6_100 : Cond.methodLink RX6 100 yX6_found ∈ rk_T := rk_in 458 (by decide +kernel) rfl
theorem npX6_isForm : yX6_isForm.cls ≠ "java/lang/invoke/MethodHandle" ∧ yX6_isForm.cls ≠ "java/lang/invoke/VarHandle" ∧ (parseMethodDescriptor yX6_isForm.desc).map (fun d => d.parameters.length) = some 1 := by decide +kernel
set_option maxRecDepth 20000 in
theorem wdX6_isForm : Cond.code yX6_isForm cX6_isForm 1 (some .boolean) ∈ rk_T := rk_in 619 rfl rfl
theorem wtX6_isForm : Cond.static yX6_isForm ∈ rk_T := rk_in 618 (by decide +kernel) rfl
theorem wmX6_212 : Cond.methodLink RX6 212 yX6_isForm ∈ rk_T := rk_in 617 (by decide +kernel) rfl
theorem npX6_isRow : yX6_isRow.cls ≠ "java/lang/invoke/MethodHandle" ∧ yX6_isRow.cls ≠ "java/lang/invoke/VarHandle" ∧ (parseMethodDescriptor yX6_isRow.desc).map (fun d => d.parameters.length) = some 1 := by decide +kernel
set_option maxRecDepth 20000 in
theorem wdX6_isRow : Cond.code yX6_isRow cX6_isRow 1 (some .boolean) ∈ rk_T := rk_in 453 rfl rfl
theorem wtX6_isRow : Cond.static yX6_isRow ∈ rk_T := rk_in 452 (by decide +kernel) rfl
theorem wmX6_93 : Cond.methodLink RX6 93 yX6_isRow ∈ rk_T := rk_in 451 (by decide +kernel) rfl
theorem wfX6_107 : Cond.fieldLink RX6 107 (TX3 2).1 (TX3 2).2.1 (TX3 2).2.2.1 ∈ rk_T := rk_in 242 (by decide +kernel) rfl
theorem npX3_end : yX3_end.cls ≠ "java/lang/invoke/MethodHandle" ∧ yX3_end.cls ≠ "java/lang/invoke/VarHandle" ∧ (parseMethodDescriptor yX3_end.desc).map (fun d => d.parameters.length) = some 0 := by decide +kernel
set_option maxRecDepth 20000 in
theorem wdX3_end : Cond.code yX3_end cX3_end 1 none ∈ rk_T := rk_in 631 rfl rfl
theorem wvX3_end : Cond.instanceMethod yX3_end ∈ rk_T := rk_in 629 (by decide +kernel) rfl
theorem weX3_end : Cond.selects RX3 yX3_end yX3_end ∈ rk_T := rk_in 630 (by decide +kernel) rfl
theorem wmX6_218 : Cond.methodLink RX6 218 yX3_end ∈ rk_T := rk_in 628 (by decide +kernel) rfl
theorem wmX6_96 : Cond.methodLink RX6 96 yX3_isLost ∈ rk_T := rk_in 454 (by decide +kernel) rfl
theorem wfX6_228 : Cond.fieldLink RX6 228 (TX3 1).1 (TX3 1).2.1 (TX3 1).2.2.1 ∈ rk_T := rk_in 240 (by decide +kernel) rfl
theorem wfX6_104 : Cond.fieldLink RX6 104 (TX3 0).1 (TX3 0).2.1 (TX3 0).2.2.1 ∈ rk_T := rk_in 238 (by decide +kernel) rfl
theorem wmX6_234 : Cond.methodLink RX6 234 arraycopyName ∈ rk_T := rk_in 658 (by decide +kernel) rfl
theorem npX3_hasItems : yX3_hasItems.cls ≠ "java/lang/invoke/MethodHandle" ∧ yX3_hasItems.cls ≠ "java/lang/invoke/VarHandle" ∧ (parseMethodDescriptor yX3_hasItems.desc).map (fun d => d.parameters.length) = some 2 := by decide +kernel
set_option maxRecDepth 20000 in
theorem wdX3_hasItems : Cond.code yX3_hasItems cX3_hasItems 3 (some .boolean) ∈ rk_T := rk_in 657 rfl rfl
theorem wvX3_hasItems : Cond.instanceMethod yX3_hasItems ∈ rk_T := rk_in 655 (by decide +kernel) rfl
theorem weX3_hasItems : Cond.selects RX3 yX3_hasItems yX3_hasItems ∈ rk_T := rk_in 656 (by decide +kernel) rfl
theorem wmX6_231 : Cond.methodLink RX6 231 yX3_hasItems ∈ rk_T := rk_in 654 (by decide +kernel) rfl
theorem wmX6_240 : Cond.methodLink RX6 240 Lib.Math.min.name ∈ rk_T := rk_in 665 (by decide +kernel) rfl
theorem wmX6_314 : Cond.methodLink RX6 314 Lib.Math.max.name ∈ rk_T := rk_in 610 (by decide +kernel) rfl
theorem wmX6_317 : Cond.methodLink RX6 317 yX6_hasBit ∈ rk_T := rk_in 398 (by decide +kernel) rfl
theorem wfX0_15 : Cond.fieldLink RX0 15 (TX0 2).1 (TX0 2).2.1 (TX0 2).2.2.1 ∈ rk_T := rk_in 219 (by decide +kernel) rfl
theorem wfX0_9 : Cond.fieldLink RX0 9 (TX0 1).1 (TX0 1).2.1 (TX0 1).2.2.1 ∈ rk_T := rk_in 218 (by decide +kernel) rfl
theorem wfX0_21 : Cond.fieldLink RX0 21 (TX0 0).1 (TX0 0).2.1 (TX0 0).2.2.1 ∈ rk_T := rk_in 217 (by decide +kernel) rfl
theorem npX4_lengthOf : yX4_lengthOf.cls ≠ "java/lang/invoke/MethodHandle" ∧ yX4_lengthOf.cls ≠ "java/lang/invoke/VarHandle" ∧ (parseMethodDescriptor yX4_lengthOf.desc).map (fun d => d.parameters.length) = some 1 := by decide +kernel
set_option maxRecDepth 20000 in
theorem wdX4_lengthOf : Cond.code yX4_lengthOf cX4_lengthOf 4 (some .int) ∈ rk_T := rk_in 574 rfl rfl
theorem wvX4_lengthOf : Cond.instanceMethod yX4_lengthOf ∈ rk_T := rk_in 572 (by decide +kernel) rfl
theorem weX4_lengthOf : Cond.selects RX4 yX4_lengthOf yX4_lengthOf ∈ rk_T := rk_in 573 (by decide +kernel) rfl
theorem wmX0_29 : Cond.methodLink RX0 29 yX4_lengthOf ∈ rk_T := rk_in 571 (by decide +kernel) rfl
theorem wfX0_18 : Cond.fieldLink RX0 18 (TX0 3).1 (TX0 3).2.1 (TX0 3).2.2.1 ∈ rk_T := rk_in 220 (by decide +kernel) rfl
theorem wfX0_49 : Cond.fieldLink RX0 49 (TX4 5).1 (TX4 5).2.1 (TX4 5).2.2.1 ∈ rk_T := rk_in 142 (by decide +kernel) rfl
theorem wfX0_55 : Cond.fieldLink RX0 55 (TX4 9).1 (TX4 9).2.1 (TX4 9).2.2.1 ∈ rk_T := rk_in 150 (by decide +kernel) rfl
theorem wfX0_61 : Cond.fieldLink RX0 61 (TX4 6).1 (TX4 6).2.1 (TX4 6).2.2.1 ∈ rk_T := rk_in 144 (by decide +kernel) rfl
theorem npX6_reached : yX6_reached.cls ≠ "java/lang/invoke/MethodHandle" ∧ yX6_reached.cls ≠ "java/lang/invoke/VarHandle" ∧ (parseMethodDescriptor yX6_reached.desc).map (fun d => d.parameters.length) = some 3 := by decide +kernel
set_option maxRecDepth 20000 in
theorem wdX6_reached : Cond.code yX6_reached cX6_reached 7 (some .int) ∈ rk_T := rk_in 397 rfl rfl
theorem wtX6_reached : Cond.static yX6_reached ∈ rk_T := rk_in 396 (by decide +kernel) rfl
theorem wnX0_64 : (RX0, 64, yX6_reached) ∈ rk_nest := by decide +kernel
theorem npX4_ofNet : yX4_ofNet.cls ≠ "java/lang/invoke/MethodHandle" ∧ yX4_ofNet.cls ≠ "java/lang/invoke/VarHandle" ∧ (parseMethodDescriptor yX4_ofNet.desc).map (fun d => d.parameters.length) = some 1 := by decide +kernel
set_option maxRecDepth 20000 in
theorem wdX4_ofNet : Cond.code yX4_ofNet cX4_ofNet 4 (some .int) ∈ rk_T := rk_in 565 rfl rfl
theorem wvX4_ofNet : Cond.instanceMethod yX4_ofNet ∈ rk_T := rk_in 563 (by decide +kernel) rfl
theorem weX4_ofNet : Cond.selects RX4 yX4_ofNet yX4_ofNet ∈ rk_T := rk_in 564 (by decide +kernel) rfl
theorem wmX0_58 : Cond.methodLink RX0 58 yX4_ofNet ∈ rk_T := rk_in 562 (by decide +kernel) rfl
theorem npX4_meetingsOf : yX4_meetingsOf.cls ≠ "java/lang/invoke/MethodHandle" ∧ yX4_meetingsOf.cls ≠ "java/lang/invoke/VarHandle" ∧ (parseMethodDescriptor yX4_meetingsOf.desc).map (fun d => d.parameters.length) = some 1 := by decide +kernel
set_option maxRecDepth 20000 in
theorem wdX4_meetingsOf : Cond.code yX4_meetingsOf cX4_meetingsOf 4 (some .int) ∈ rk_T := rk_in 561 rfl rfl
theorem wvX4_meetingsOf : Cond.instanceMethod yX4_meetingsOf ∈ rk_T := rk_in 559 (by decide +kernel) rfl
theorem weX4_meetingsOf : Cond.selects RX4 yX4_meetingsOf yX4_meetingsOf ∈ rk_T := rk_in 560 (by decide +kernel) rfl
theorem wmX0_52 : Cond.methodLink RX0 52 yX4_meetingsOf ∈ rk_T := rk_in 558 (by decide +kernel) rfl
theorem npX1_consider : yX1_consider.cls ≠ "java/lang/invoke/MethodHandle" ∧ yX1_consider.cls ≠ "java/lang/invoke/VarHandle" ∧ (parseMethodDescriptor yX1_consider.desc).map (fun d => d.parameters.length) = some 2 := by decide +kernel
set_option maxRecDepth 20000 in
theorem wdX1_consider : Cond.code yX1_consider cX1_consider 9 none ∈ rk_T := rk_in 352 rfl rfl
theorem wvX1_consider : Cond.instanceMethod yX1_consider ∈ rk_T := rk_in 351 (by decide +kernel) rfl
theorem weX1_consider : Cond.selects RX1 yX1_consider yX1_consider ∈ rk_T := rk_inS 7 (by decide +kernel) rfl
theorem wmX1_106 : Cond.methodLink RX1 106 yX1_consider ∈ rk_T := rk_in 349 (by decide +kernel) rfl
theorem npX1_mayJoin : yX1_mayJoin.cls ≠ "java/lang/invoke/MethodHandle" ∧ yX1_mayJoin.cls ≠ "java/lang/invoke/VarHandle" ∧ (parseMethodDescriptor yX1_mayJoin.desc).map (fun d => d.parameters.length) = some 2 := by decide +kernel
set_option maxRecDepth 20000 in
theorem wdX1_mayJoin : Cond.code yX1_mayJoin cX1_mayJoin 5 (some .boolean) ∈ rk_T := rk_in 348 rfl rfl
theorem wvX1_mayJoin : Cond.instanceMethod yX1_mayJoin ∈ rk_T := rk_in 347 (by decide +kernel) rfl
theorem weX1_mayJoin : Cond.selects RX1 yX1_mayJoin yX1_mayJoin ∈ rk_T := rk_inS 6 (by decide +kernel) rfl
theorem wmX1_103 : Cond.methodLink RX1 103 yX1_mayJoin ∈ rk_T := rk_in 345 (by decide +kernel) rfl
theorem wfX2_27 : Cond.fieldLink RX2 27 (TX2 5).1 (TX2 5).2.1 (TX2 5).2.2.1 ∈ rk_T := rk_in 42 (by decide +kernel) rfl
theorem wmX2_64 : Cond.methodLink RX2 64 Lib.Math.abs.name ∈ rk_T := rk_in 313 (by decide +kernel) rfl
theorem npX2_isLinked : yX2_isLinked.cls ≠ "java/lang/invoke/MethodHandle" ∧ yX2_isLinked.cls ≠ "java/lang/invoke/VarHandle" ∧ (parseMethodDescriptor yX2_isLinked.desc).map (fun d => d.parameters.length) = some 2 := by decide +kernel
set_option maxRecDepth 20000 in
theorem wdX2_isLinked : Cond.code yX2_isLinked cX2_isLinked 4 (some .boolean) ∈ rk_T := rk_in 308 rfl rfl
theorem wvX2_isLinked : Cond.instanceMethod yX2_isLinked ∈ rk_T := rk_in 307 (by decide +kernel) rfl
theorem weX2_isLinked : Cond.selects RX2 yX2_isLinked yX2_isLinked ∈ rk_T := rk_inS 1 (by decide +kernel) rfl
theorem wmX2_61 : Cond.methodLink RX2 61 yX2_isLinked ∈ rk_T := rk_in 305 (by decide +kernel) rfl
theorem npX6_isUse : yX6_isUse.cls ≠ "java/lang/invoke/MethodHandle" ∧ yX6_isUse.cls ≠ "java/lang/invoke/VarHandle" ∧ (parseMethodDescriptor yX6_isUse.desc).map (fun d => d.parameters.length) = some 1 := by decide +kernel
set_option maxRecDepth 20000 in
theorem wdX6_isUse : Cond.code yX6_isUse cX6_isUse 1 (some .boolean) ∈ rk_T := rk_in 304 rfl rfl
theorem wtX6_isUse : Cond.static yX6_isUse ∈ rk_T := rk_in 303 (by decide +kernel) rfl
theorem wnX2_58 : (RX2, 58, yX6_isUse) ∈ rk_nest := by decide +kernel
theorem npX6_isKind : yX6_isKind.cls ≠ "java/lang/invoke/MethodHandle" ∧ yX6_isKind.cls ≠ "java/lang/invoke/VarHandle" ∧ (parseMethodDescriptor yX6_isKind.desc).map (fun d => d.parameters.length) = some 1 := by decide +kernel
set_option maxRecDepth 20000 in
theorem wdX6_isKind : Cond.code yX6_isKind cX6_isKind 1 (some .boolean) ∈ rk_T := rk_in 301 rfl rfl
theorem wtX6_isKind : Cond.static yX6_isKind ∈ rk_T := rk_in 300 (by decide +kernel) rfl
theorem wnX2_55 : (RX2, 55, yX6_isKind) ∈ rk_nest := by decide +kernel
theorem wmX2_52 : Cond.methodLink RX2 52 yX2_hasMeeting ∈ rk_T := rk_in 295 (by decide +kernel) rfl
theorem wfX4_85 : Cond.fieldLink RX4 85 (TX2 8).1 (TX2 8).2.1 (TX2 8).2.2.1 ∈ rk_T := rk_in 55 (by decide +kernel) rfl
theorem wfX4_52 : Cond.fieldLink RX4 52 (TX4 15).1 (TX4 15).2.1 (TX4 15).2.2.1 ∈ rk_T := rk_in 161 (by decide +kernel) rfl
theorem wnX4_98 : (RX4, 98, yX6_reached) ∈ rk_nest := by decide +kernel
theorem npX2_allRoads : yX2_allRoads.cls ≠ "java/lang/invoke/MethodHandle" ∧ yX2_allRoads.cls ≠ "java/lang/invoke/VarHandle" ∧ (parseMethodDescriptor yX2_allRoads.desc).map (fun d => d.parameters.length) = some 0 := by decide +kernel
set_option maxRecDepth 20000 in
theorem wdX2_allRoads : Cond.code yX2_allRoads cX2_allRoads 1 (some .int) ∈ rk_T := rk_in 394 rfl rfl
theorem wvX2_allRoads : Cond.instanceMethod yX2_allRoads ∈ rk_T := rk_in 392 (by decide +kernel) rfl
theorem weX2_allRoads : Cond.selects RX2 yX2_allRoads yX2_allRoads ∈ rk_T := rk_in 393 (by decide +kernel) rfl
theorem wmX4_94 : Cond.methodLink RX4 94 yX2_allRoads ∈ rk_T := rk_in 391 (by decide +kernel) rfl
theorem npX1_partnersOf : yX1_partnersOf.cls ≠ "java/lang/invoke/MethodHandle" ∧ yX1_partnersOf.cls ≠ "java/lang/invoke/VarHandle" ∧ (parseMethodDescriptor yX1_partnersOf.desc).map (fun d => d.parameters.length) = some 1 := by decide +kernel
set_option maxRecDepth 20000 in
theorem wdX1_partnersOf : Cond.code yX1_partnersOf cX1_partnersOf 3 (some .int) ∈ rk_T := rk_in 379 rfl rfl
theorem wvX1_partnersOf : Cond.instanceMethod yX1_partnersOf ∈ rk_T := rk_in 377 (by decide +kernel) rfl
theorem weX1_partnersOf : Cond.selects RX1 yX1_partnersOf yX1_partnersOf ∈ rk_T := rk_in 378 (by decide +kernel) rfl
theorem wmX4_89 : Cond.methodLink RX4 89 yX1_partnersOf ∈ rk_T := rk_in 376 (by decide +kernel) rfl
theorem wfX4_9 : Cond.fieldLink RX4 9 (TX4 0).1 (TX4 0).2.1 (TX4 0).2.2.1 ∈ rk_T := rk_in 131 (by decide +kernel) rfl
theorem npX4_measureRoad : yX4_measureRoad.cls ≠ "java/lang/invoke/MethodHandle" ∧ yX4_measureRoad.cls ≠ "java/lang/invoke/VarHandle" ∧ (parseMethodDescriptor yX4_measureRoad.desc).map (fun d => d.parameters.length) = some 2 := by decide +kernel
set_option maxRecDepth 20000 in
theorem wdX4_measureRoad : Cond.code yX4_measureRoad cX4_measureRoad 5 none ∈ rk_T := rk_in 406 rfl rfl
theorem wvX4_measureRoad : Cond.instanceMethod yX4_measureRoad ∈ rk_T := rk_in 405 (by decide +kernel) rfl
theorem weX4_measureRoad : Cond.selects RX4 yX4_measureRoad yX4_measureRoad ∈ rk_T := rk_inS 12 (by decide +kernel) rfl
theorem wmX4_102 : Cond.methodLink RX4 102 yX4_measureRoad ∈ rk_T := rk_in 403 (by decide +kernel) rfl
theorem wfX4_36 : Cond.fieldLink RX4 36 (TX4 8).1 (TX4 8).2.1 (TX4 8).2.2.1 ∈ rk_T := rk_in 147 (by decide +kernel) rfl
theorem wfX4_49 : Cond.fieldLink RX4 49 (TX4 12).1 (TX4 12).2.1 (TX4 12).2.2.1 ∈ rk_T := rk_in 157 (by decide +kernel) rfl
theorem wfX4_30 : Cond.fieldLink RX4 30 (TX4 6).1 (TX4 6).2.1 (TX4 6).2.2.1 ∈ rk_T := rk_in 143 (by decide +kernel) rfl
theorem npX4_worthiest : yX4_worthiest.cls ≠ "java/lang/invoke/MethodHandle" ∧ yX4_worthiest.cls ≠ "java/lang/invoke/VarHandle" ∧ (parseMethodDescriptor yX4_worthiest.desc).map (fun d => d.parameters.length) = some 1 := by decide +kernel
set_option maxRecDepth 20000 in
theorem wdX4_worthiest : Cond.code yX4_worthiest cX4_worthiest 4 (some .int) ∈ rk_T := rk_in 428 rfl rfl
theorem wvX4_worthiest : Cond.instanceMethod yX4_worthiest ∈ rk_T := rk_in 427 (by decide +kernel) rfl
theorem weX4_worthiest : Cond.selects RX4 yX4_worthiest yX4_worthiest ∈ rk_T := rk_inS 15 (by decide +kernel) rfl
theorem wmX4_129 : Cond.methodLink RX4 129 yX4_worthiest ∈ rk_T := rk_in 425 (by decide +kernel) rfl
theorem npX4_all : yX4_all.cls ≠ "java/lang/invoke/MethodHandle" ∧ yX4_all.cls ≠ "java/lang/invoke/VarHandle" ∧ (parseMethodDescriptor yX4_all.desc).map (fun d => d.parameters.length) = some 0 := by decide +kernel
set_option maxRecDepth 20000 in
theorem wdX4_all : Cond.code yX4_all cX4_all 1 (some .int) ∈ rk_T := rk_in 424 rfl rfl
theorem wvX4_all : Cond.instanceMethod yX4_all ∈ rk_T := rk_in 422 (by decide +kernel) rfl
theorem weX4_all : Cond.selects RX4 yX4_all yX4_all ∈ rk_T := rk_in 423 (by decide +kernel) rfl
theorem wmX4_126 : Cond.methodLink RX4 126 yX4_all ∈ rk_T := rk_in 421 (by decide +kernel) rfl
theorem wcX5_22 : Cond.constant RX5 22 (1000000) ∈ rk_T := rk_in 535 (by decide +kernel) rfl
theorem npX5_shorten : yX5_shorten.cls ≠ "java/lang/invoke/MethodHandle" ∧ yX5_shorten.cls ≠ "java/lang/invoke/VarHandle" ∧ (parseMethodDescriptor yX5_shorten.desc).map (fun d => d.parameters.length) = some 1 := by decide +kernel
set_option maxRecDepth 20000 in
theorem wdX5_shorten : Cond.code yX5_shorten cX5_shorten 7 (some .boolean) ∈ rk_T := rk_in 539 rfl rfl
theorem wvX5_shorten : Cond.instanceMethod yX5_shorten ∈ rk_T := rk_in 538 (by decide +kernel) rfl
theorem weX5_shorten : Cond.selects RX5 yX5_shorten yX5_shorten ∈ rk_T := rk_inS 18 (by decide +kernel) rfl
theorem wmX5_23 : Cond.methodLink RX5 23 yX5_shorten ∈ rk_T := rk_in 536 (by decide +kernel) rfl
theorem wcX5_56 : Cond.constant RX5 56 (65535) ∈ rk_T := rk_in 595 (by decide +kernel) rfl
theorem wnX5_57 : (RX5, 57, yX6_reached) ∈ rk_nest := by decide +kernel
theorem npX2_addMeeting : yX2_addMeeting.cls ≠ "java/lang/invoke/MethodHandle" ∧ yX2_addMeeting.cls ≠ "java/lang/invoke/VarHandle" ∧ (parseMethodDescriptor yX2_addMeeting.desc).map (fun d => d.parameters.length) = some 2 := by decide +kernel
set_option maxRecDepth 20000 in
theorem wdX2_addMeeting : Cond.code yX2_addMeeting cX2_addMeeting 3 (some .int) ∈ rk_T := rk_in 279 rfl rfl
theorem wvX2_addMeeting : Cond.instanceMethod yX2_addMeeting ∈ rk_T := rk_in 277 (by decide +kernel) rfl
theorem weX2_addMeeting : Cond.selects RX2 yX2_addMeeting yX2_addMeeting ∈ rk_T := rk_in 278 (by decide +kernel) rfl
theorem wmX6_61 : Cond.methodLink RX6 61 yX2_addMeeting ∈ rk_T := rk_in 276 (by decide +kernel) rfl
theorem wfX6_113 : Cond.fieldLink RX6 113 (TX2 0).1 (TX2 0).2.1 (TX2 0).2.2.1 ∈ rk_T := rk_in 27 (by decide +kernel) rfl
theorem wfX6_116 : Cond.fieldLink RX6 116 (TX2 1).1 (TX2 1).2.1 (TX2 1).2.2.1 ∈ rk_T := rk_in 29 (by decide +kernel) rfl
theorem npX2_roadsAt : yX2_roadsAt.cls ≠ "java/lang/invoke/MethodHandle" ∧ yX2_roadsAt.cls ≠ "java/lang/invoke/VarHandle" ∧ (parseMethodDescriptor yX2_roadsAt.desc).map (fun d => d.parameters.length) = some 1 := by decide +kernel
set_option maxRecDepth 20000 in
theorem wdX2_roadsAt : Cond.code yX2_roadsAt cX2_roadsAt 4 (some .int) ∈ rk_T := rk_in 470 rfl rfl
theorem wvX2_roadsAt : Cond.instanceMethod yX2_roadsAt ∈ rk_T := rk_in 468 (by decide +kernel) rfl
theorem weX2_roadsAt : Cond.selects RX2 yX2_roadsAt yX2_roadsAt ∈ rk_T := rk_in 469 (by decide +kernel) rfl
theorem wmX6_119 : Cond.methodLink RX6 119 yX2_roadsAt ∈ rk_T := rk_in 467 (by decide +kernel) rfl
theorem npX1_areAlong : yX1_areAlong.cls ≠ "java/lang/invoke/MethodHandle" ∧ yX1_areAlong.cls ≠ "java/lang/invoke/VarHandle" ∧ (parseMethodDescriptor yX1_areAlong.desc).map (fun d => d.parameters.length) = some 3 := by decide +kernel
set_option maxRecDepth 20000 in
theorem wdX1_areAlong : Cond.code yX1_areAlong cX1_areAlong 10 (some .boolean) ∈ rk_T := rk_in 492 rfl rfl
theorem wvX1_areAlong : Cond.instanceMethod yX1_areAlong ∈ rk_T := rk_in 490 (by decide +kernel) rfl
theorem weX1_areAlong : Cond.selects RX1 yX1_areAlong yX1_areAlong ∈ rk_T := rk_in 491 (by decide +kernel) rfl
theorem wmX6_144 : Cond.methodLink RX6 144 yX1_areAlong ∈ rk_T := rk_in 489 (by decide +kernel) rfl
theorem wfX6_207 : Cond.fieldLink RX6 207 (TX2 8).1 (TX2 8).2.1 (TX2 8).2.2.1 ∈ rk_T := rk_in 56 (by decide +kernel) rfl
theorem npX6_firstWorthIfWide : yX6_firstWorthIfWide.cls ≠ "java/lang/invoke/MethodHandle" ∧ yX6_firstWorthIfWide.cls ≠ "java/lang/invoke/VarHandle" ∧ (parseMethodDescriptor yX6_firstWorthIfWide.desc).map (fun d => d.parameters.length) = some 1 := by decide +kernel
set_option maxRecDepth 20000 in
theorem wdX6_firstWorthIfWide : Cond.code yX6_firstWorthIfWide cX6_firstWorthIfWide 4 (some .int) ∈ rk_T := rk_in 609 rfl rfl
theorem wvX6_firstWorthIfWide : Cond.instanceMethod yX6_firstWorthIfWide ∈ rk_T := rk_in 608 (by decide +kernel) rfl
theorem weX6_firstWorthIfWide : Cond.selects RX6 yX6_firstWorthIfWide yX6_firstWorthIfWide ∈ rk_T := rk_inS 24 (by decide +kernel) rfl
theorem wmX6_209 : Cond.methodLink RX6 209 yX6_firstWorthIfWide ∈ rk_T := rk_in 606 (by decide +kernel) rfl
theorem npX3_trimmed : yX3_trimmed.cls ≠ "java/lang/invoke/MethodHandle" ∧ yX3_trimmed.cls ≠ "java/lang/invoke/VarHandle" ∧ (parseMethodDescriptor yX3_trimmed.desc).map (fun d => d.parameters.length) = some 1 := by decide +kernel
set_option maxRecDepth 20000 in
theorem wdX3_trimmed : Cond.code yX3_trimmed cX3_trimmed 2 (some .int) ∈ rk_T := rk_in 644 rfl rfl
theorem wvX3_trimmed : Cond.instanceMethod yX3_trimmed ∈ rk_T := rk_in 642 (by decide +kernel) rfl
theorem weX3_trimmed : Cond.selects RX3 yX3_trimmed yX3_trimmed ∈ rk_T := rk_in 643 (by decide +kernel) rfl
theorem wmX6_224 : Cond.methodLink RX6 224 yX3_trimmed ∈ rk_T := rk_in 641 (by decide +kernel) rfl
theorem npX3_faultOf : yX3_faultOf.cls ≠ "java/lang/invoke/MethodHandle" ∧ yX3_faultOf.cls ≠ "java/lang/invoke/VarHandle" ∧ (parseMethodDescriptor yX3_faultOf.desc).map (fun d => d.parameters.length) = some 2 := by decide +kernel
set_option maxRecDepth 20000 in
theorem wdX3_faultOf : Cond.code yX3_faultOf cX3_faultOf 3 (some .int) ∈ rk_T := rk_in 639 rfl rfl
theorem wvX3_faultOf : Cond.instanceMethod yX3_faultOf ∈ rk_T := rk_in 637 (by decide +kernel) rfl
theorem weX3_faultOf : Cond.selects RX3 yX3_faultOf yX3_faultOf ∈ rk_T := rk_in 638 (by decide +kernel) rfl
theorem wmX6_221 : Cond.methodLink RX6 221 yX3_faultOf ∈ rk_T := rk_in 636 (by decide +kernel) rfl
theorem wcX6_227 : Cond.constant RX6 227 (-2147483648) ∈ rk_T := rk_in 649 (by decide +kernel) rfl
theorem wfX6_245 : Cond.fieldLink RX6 245 (TX2 7).1 (TX2 7).2.1 (TX2 7).2.2.1 ∈ rk_T := rk_in 51 (by decide +kernel) rfl
theorem wfX6_248 : Cond.fieldLink RX6 248 (TX4 12).1 (TX4 12).2.1 (TX4 12).2.2.1 ∈ rk_T := rk_in 158 (by decide +kernel) rfl
theorem wmX6_254 : Cond.methodLink RX6 254 yX4_lengthOf ∈ rk_T := rk_in 673 (by decide +kernel) rfl
theorem wmX6_251 : Cond.methodLink RX6 251 yX4_all ∈ rk_T := rk_in 672 (by decide +kernel) rfl
theorem npX4_howManyClosed : yX4_howManyClosed.cls ≠ "java/lang/invoke/MethodHandle" ∧ yX4_howManyClosed.cls ≠ "java/lang/invoke/VarHandle" ∧ (parseMethodDescriptor yX4_howManyClosed.desc).map (fun d => d.parameters.length) = some 0 := by decide +kernel
set_option maxRecDepth 20000 in
theorem wdX4_howManyClosed : Cond.code yX4_howManyClosed cX4_howManyClosed 3 (some .int) ∈ rk_T := rk_in 677 rfl rfl
theorem wvX4_howManyClosed : Cond.instanceMethod yX4_howManyClosed ∈ rk_T := rk_in 675 (by decide +kernel) rfl
theorem weX4_howManyClosed : Cond.selects RX4 yX4_howManyClosed yX4_howManyClosed ∈ rk_T := rk_in 676 (by decide +kernel) rfl
theorem wmX6_257 : Cond.methodLink RX6 257 yX4_howManyClosed ∈ rk_T := rk_in 674 (by decide +kernel) rfl
theorem npX4_worthOfAll : yX4_worthOfAll.cls ≠ "java/lang/invoke/MethodHandle" ∧ yX4_worthOfAll.cls ≠ "java/lang/invoke/VarHandle" ∧ (parseMethodDescriptor yX4_worthOfAll.desc).map (fun d => d.parameters.length) = some 0 := by decide +kernel
set_option maxRecDepth 20000 in
theorem wdX4_worthOfAll : Cond.code yX4_worthOfAll cX4_worthOfAll 1 (some .int) ∈ rk_T := rk_in 682 rfl rfl
theorem wvX4_worthOfAll : Cond.instanceMethod yX4_worthOfAll ∈ rk_T := rk_in 680 (by decide +kernel) rfl
theorem weX4_worthOfAll : Cond.selects RX4 yX4_worthOfAll yX4_worthOfAll ∈ rk_T := rk_in 681 (by decide +kernel) rfl
theorem wmX6_260 : Cond.methodLink RX6 260 yX4_worthOfAll ∈ rk_T := rk_in 679 (by decide +kernel) rfl
theorem wfX6_263 : Cond.fieldLink RX6 263 (TX1 0).1 (TX1 0).2.1 (TX1 0).2.2.1 ∈ rk_T := rk_in 88 (by decide +kernel) rfl
theorem npX6_mixed : yX6_mixed.cls ≠ "java/lang/invoke/MethodHandle" ∧ yX6_mixed.cls ≠ "java/lang/invoke/VarHandle" ∧ (parseMethodDescriptor yX6_mixed.desc).map (fun d => d.parameters.length) = some 2 := by decide +kernel
set_option maxRecDepth 20000 in
theorem wdX6_mixed : Cond.code yX6_mixed cX6_mixed 3 (some .long) ∈ rk_T := rk_in 691 rfl rfl
theorem wtX6_mixed : Cond.static yX6_mixed ∈ rk_T := rk_in 690 (by decide +kernel) rfl
theorem wmX6_270 : Cond.methodLink RX6 270 yX6_mixed ∈ rk_T := rk_in 689 (by decide +kernel) rfl
theorem npX6_rank : yX6_rank.cls ≠ "java/lang/invoke/MethodHandle" ∧ yX6_rank.cls ≠ "java/lang/invoke/VarHandle" ∧ (parseMethodDescriptor yX6_rank.desc).map (fun d => d.parameters.length) = some 2 := by decide +kernel
set_option maxRecDepth 20000 in
theorem wdX6_rank : Cond.code yX6_rank cX6_rank 3 (some .int) ∈ rk_T := rk_in 514 rfl rfl
theorem wvX6_rank : Cond.instanceMethod yX6_rank ∈ rk_T := rk_in 512 (by decide +kernel) rfl
theorem weX6_rank : Cond.selects RX6 yX6_rank yX6_rank ∈ rk_T := rk_in 513 (by decide +kernel) rfl
theorem wmX6_301 : Cond.methodLink RX6 301 yX6_rank ∈ rk_T := rk_in 706 (by decide +kernel) rfl
theorem npX6_stroke : yX6_stroke.cls ≠ "java/lang/invoke/MethodHandle" ∧ yX6_stroke.cls ≠ "java/lang/invoke/VarHandle" ∧ (parseMethodDescriptor yX6_stroke.desc).map (fun d => d.parameters.length) = some 2 := by decide +kernel
set_option maxRecDepth 20000 in
theorem wdX6_stroke : Cond.code yX6_stroke cX6_stroke 3 (some .int) ∈ rk_T := rk_in 496 rfl rfl
theorem wvX6_stroke : Cond.instanceMethod yX6_stroke ∈ rk_T := rk_in 494 (by decide +kernel) rfl
theorem weX6_stroke : Cond.selects RX6 yX6_stroke yX6_stroke ∈ rk_T := rk_in 495 (by decide +kernel) rfl
theorem wmX6_298 : Cond.methodLink RX6 298 yX6_stroke ∈ rk_T := rk_in 705 (by decide +kernel) rfl
theorem wfX0_41 : Cond.fieldLink RX0 41 (TX4 3).1 (TX4 3).2.1 (TX4 3).2.2.1 ∈ rk_T := rk_in 138 (by decide +kernel) rfl
theorem npX0_mayGo : yX0_mayGo.cls ≠ "java/lang/invoke/MethodHandle" ∧ yX0_mayGo.cls ≠ "java/lang/invoke/VarHandle" ∧ (parseMethodDescriptor yX0_mayGo.desc).map (fun d => d.parameters.length) = some 1 := by decide +kernel
set_option maxRecDepth 20000 in
theorem wdX0_mayGo : Cond.code yX0_mayGo cX0_mayGo 4 (some .boolean) ∈ rk_T := rk_in 557 rfl rfl
theorem wiX0 : Cond.initialized RX0 ∈ rk_T := rk_in 6 (by decide +kernel) rfl
theorem wvX0_mayGo : Cond.instanceMethod yX0_mayGo ∈ rk_T := rk_in 556 (by decide +kernel) rfl
theorem weX0_mayGo : Cond.selects RX0 yX0_mayGo yX0_mayGo ∈ rk_T := rk_inS 20 (by decide +kernel) rfl
theorem wmX0_45 : Cond.methodLink RX0 45 yX0_mayGo ∈ rk_T := rk_in 554 (by decide +kernel) rfl
theorem wnX0_37 : (RX0, 37, yX6_hasBit) ∈ rk_nest := by decide +kernel
theorem wfX0_34 : Cond.fieldLink RX0 34 (TX4 11).1 (TX4 11).2.1 (TX4 11).2.2.1 ∈ rk_T := rk_in 155 (by decide +kernel) rfl
theorem wfX1_9 : Cond.fieldLink RX1 9 (TX1 0).1 (TX1 0).2.1 (TX1 0).2.2.1 ∈ rk_T := rk_in 87 (by decide +kernel) rfl
theorem npX1_dropBest : yX1_dropBest.cls ≠ "java/lang/invoke/MethodHandle" ∧ yX1_dropBest.cls ≠ "java/lang/invoke/VarHandle" ∧ (parseMethodDescriptor yX1_dropBest.desc).map (fun d => d.parameters.length) = some 0 := by decide +kernel
set_option maxRecDepth 20000 in
theorem wdX1_dropBest : Cond.code yX1_dropBest cX1_dropBest 3 none ∈ rk_T := rk_in 367 rfl rfl
theorem wvX1_dropBest : Cond.instanceMethod yX1_dropBest ∈ rk_T := rk_in 366 (by decide +kernel) rfl
theorem weX1_dropBest : Cond.selects RX1 yX1_dropBest yX1_dropBest ∈ rk_T := rk_inS 9 (by decide +kernel) rfl
theorem wmX1_96 : Cond.methodLink RX1 96 yX1_dropBest ∈ rk_T := rk_in 364 (by decide +kernel) rfl
theorem npX1_setPartner : yX1_setPartner.cls ≠ "java/lang/invoke/MethodHandle" ∧ yX1_setPartner.cls ≠ "java/lang/invoke/VarHandle" ∧ (parseMethodDescriptor yX1_setPartner.desc).map (fun d => d.parameters.length) = some 3 := by decide +kernel
set_option maxRecDepth 20000 in
theorem wdX1_setPartner : Cond.code yX1_setPartner cX1_setPartner 4 none ∈ rk_T := rk_in 363 rfl rfl
theorem wvX1_setPartner : Cond.instanceMethod yX1_setPartner ∈ rk_T := rk_in 362 (by decide +kernel) rfl
theorem weX1_setPartner : Cond.selects RX1 yX1_setPartner yX1_setPartner ∈ rk_T := rk_inS 8 (by decide +kernel) rfl
theorem wmX1_92 : Cond.methodLink RX1 92 yX1_setPartner ∈ rk_T := rk_in 360 (by decide +kernel) rfl
theorem npX1_findStraightest : yX1_findStraightest.cls ≠ "java/lang/invoke/MethodHandle" ∧ yX1_findStraightest.cls ≠ "java/lang/invoke/VarHandle" ∧ (parseMethodDescriptor yX1_findStraightest.desc).map (fun d => d.parameters.length) = some 0 := by decide +kernel
set_option maxRecDepth 20000 in
theorem wdX1_findStraightest : Cond.code yX1_findStraightest cX1_findStraightest 3 none ∈ rk_T := rk_in 344 rfl rfl
theorem wvX1_findStraightest : Cond.instanceMethod yX1_findStraightest ∈ rk_T := rk_in 343 (by decide +kernel) rfl
theorem weX1_findStraightest : Cond.selects RX1 yX1_findStraightest yX1_findStraightest ∈ rk_T := rk_inS 5 (by decide +kernel) rfl
theorem wmX1_89 : Cond.methodLink RX1 89 yX1_findStraightest ∈ rk_T := rk_in 341 (by decide +kernel) rfl
theorem npX1_gatherFree : yX1_gatherFree.cls ≠ "java/lang/invoke/MethodHandle" ∧ yX1_gatherFree.cls ≠ "java/lang/invoke/VarHandle" ∧ (parseMethodDescriptor yX1_gatherFree.desc).map (fun d => d.parameters.length) = some 1 := by decide +kernel
set_option maxRecDepth 20000 in
theorem wdX1_gatherFree : Cond.code yX1_gatherFree cX1_gatherFree 3 none ∈ rk_T := rk_in 331 rfl rfl
theorem wvX1_gatherFree : Cond.instanceMethod yX1_gatherFree ∈ rk_T := rk_in 330 (by decide +kernel) rfl
theorem weX1_gatherFree : Cond.selects RX1 yX1_gatherFree yX1_gatherFree ∈ rk_T := rk_inS 4 (by decide +kernel) rfl
theorem wmX1_86 : Cond.methodLink RX1 86 yX1_gatherFree ∈ rk_T := rk_in 328 (by decide +kernel) rfl
theorem npX4_giveRanks : yX4_giveRanks.cls ≠ "java/lang/invoke/MethodHandle" ∧ yX4_giveRanks.cls ≠ "java/lang/invoke/VarHandle" ∧ (parseMethodDescriptor yX4_giveRanks.desc).map (fun d => d.parameters.length) = some 0 := by decide +kernel
set_option maxRecDepth 20000 in
theorem wdX4_giveRanks : Cond.code yX4_giveRanks cX4_giveRanks 6 none ∈ rk_T := rk_in 420 rfl rfl
theorem wvX4_giveRanks : Cond.instanceMethod yX4_giveRanks ∈ rk_T := rk_in 419 (by decide +kernel) rfl
theorem weX4_giveRanks : Cond.selects RX4 yX4_giveRanks yX4_giveRanks ∈ rk_T := rk_inS 14 (by decide +kernel) rfl
theorem wmX4_74 : Cond.methodLink RX4 74 yX4_giveRanks ∈ rk_T := rk_in 417 (by decide +kernel) rfl
theorem npX4_touching : yX4_touching.cls ≠ "java/lang/invoke/MethodHandle" ∧ yX4_touching.cls ≠ "java/lang/invoke/VarHandle" ∧ (parseMethodDescriptor yX4_touching.desc).map (fun d => d.parameters.length) = some 1 := by decide +kernel
set_option maxRecDepth 20000 in
theorem wdX4_touching : Cond.code yX4_touching cX4_touching 4 (some .int) ∈ rk_T := rk_in 416 rfl rfl
theorem wvX4_touching : Cond.instanceMethod yX4_touching ∈ rk_T := rk_in 415 (by decide +kernel) rfl
theorem weX4_touching : Cond.selects RX4 yX4_touching yX4_touching ∈ rk_T := rk_inS 13 (by decide +kernel) rfl
theorem wmX4_70 : Cond.methodLink RX4 70 yX4_touching ∈ rk_T := rk_in 413 (by decide +kernel) rfl
theorem npX4_measure : yX4_measure.cls ≠ "java/lang/invoke/MethodHandle" ∧ yX4_measure.cls ≠ "java/lang/invoke/VarHandle" ∧ (parseMethodDescriptor yX4_measure.desc).map (fun d => d.parameters.length) = some 1 := by decide +kernel
set_option maxRecDepth 20000 in
theorem wdX4_measure : Cond.code yX4_measure cX4_measure 3 none ∈ rk_T := rk_in 402 rfl rfl
theorem wvX4_measure : Cond.instanceMethod yX4_measure ∈ rk_T := rk_in 401 (by decide +kernel) rfl
theorem weX4_measure : Cond.selects RX4 yX4_measure yX4_measure ∈ rk_T := rk_inS 11 (by decide +kernel) rfl
theorem wmX4_66 : Cond.methodLink RX4 66 yX4_measure ∈ rk_T := rk_in 399 (by decide +kernel) rfl
theorem npX4_gatherRoads : yX4_gatherRoads.cls ≠ "java/lang/invoke/MethodHandle" ∧ yX4_gatherRoads.cls ≠ "java/lang/invoke/VarHandle" ∧ (parseMethodDescriptor yX4_gatherRoads.desc).map (fun d => d.parameters.length) = some 0 := by decide +kernel
set_option maxRecDepth 20000 in
theorem wdX4_gatherRoads : Cond.code yX4_gatherRoads cX4_gatherRoads 3 none ∈ rk_T := rk_in 375 rfl rfl
theorem wvX4_gatherRoads : Cond.instanceMethod yX4_gatherRoads ∈ rk_T := rk_in 374 (by decide +kernel) rfl
theorem weX4_gatherRoads : Cond.selects RX4 yX4_gatherRoads yX4_gatherRoads ∈ rk_T := rk_inS 10 (by decide +kernel) rfl
theorem wmX4_63 : Cond.methodLink RX4 63 yX4_gatherRoads ∈ rk_T := rk_in 372 (by decide +kernel) rfl
theorem npX5_isBridge : yX5_isBridge.cls ≠ "java/lang/invoke/MethodHandle" ∧ yX5_isBridge.cls ≠ "java/lang/invoke/VarHandle" ∧ (parseMethodDescriptor yX5_isBridge.desc).map (fun d => d.parameters.length) = some 1 := by decide +kernel
set_option maxRecDepth 20000 in
theorem wdX5_isBridge : Cond.code yX5_isBridge cX5_isBridge 3 (some .boolean) ∈ rk_T := rk_in 594 rfl rfl
theorem wvX5_isBridge : Cond.instanceMethod yX5_isBridge ∈ rk_T := rk_in 593 (by decide +kernel) rfl
theorem weX5_isBridge : Cond.selects RX5 yX5_isBridge yX5_isBridge ∈ rk_T := rk_inS 23 (by decide +kernel) rfl
theorem wmX5_41 : Cond.methodLink RX5 41 yX5_isBridge ∈ rk_T := rk_in 591 (by decide +kernel) rfl
theorem npX5_gatherNear : yX5_gatherNear.cls ≠ "java/lang/invoke/MethodHandle" ∧ yX5_gatherNear.cls ≠ "java/lang/invoke/VarHandle" ∧ (parseMethodDescriptor yX5_gatherNear.desc).map (fun d => d.parameters.length) = some 1 := by decide +kernel
set_option maxRecDepth 20000 in
theorem wdX5_gatherNear : Cond.code yX5_gatherNear cX5_gatherNear 3 none ∈ rk_T := rk_in 586 rfl rfl
theorem wvX5_gatherNear : Cond.instanceMethod yX5_gatherNear ∈ rk_T := rk_in 585 (by decide +kernel) rfl
theorem weX5_gatherNear : Cond.selects RX5 yX5_gatherNear yX5_gatherNear ∈ rk_T := rk_inS 21 (by decide +kernel) rfl
theorem wmX5_27 : Cond.methodLink RX5 27 yX5_gatherNear ∈ rk_T := rk_in 583 (by decide +kernel) rfl
theorem wfX6_37 : Cond.fieldLink RX6 37 (TX6 3).1 (TX6 3).2.1 (TX6 3).2.2.1 ∈ rk_T := rk_in 253 (by decide +kernel) rfl
theorem npX5_least : yX5_least.cls ≠ "java/lang/invoke/MethodHandle" ∧ yX5_least.cls ≠ "java/lang/invoke/VarHandle" ∧ (parseMethodDescriptor yX5_least.desc).map (fun d => d.parameters.length) = some 3 := by decide +kernel
set_option maxRecDepth 20000 in
theorem wdX5_least : Cond.code yX5_least cX5_least 5 (some .int) ∈ rk_T := rk_in 534 rfl rfl
theorem wvX5_least : Cond.instanceMethod yX5_least ∈ rk_T := rk_in 532 (by decide +kernel) rfl
theorem weX5_least : Cond.selects RX5 yX5_least yX5_least ∈ rk_T := rk_in 533 (by decide +kernel) rfl
theorem wmX6_190 : Cond.methodLink RX6 190 yX5_least ∈ rk_T := rk_in 531 (by decide +kernel) rfl
theorem npX4_roadsOf : yX4_roadsOf.cls ≠ "java/lang/invoke/MethodHandle" ∧ yX4_roadsOf.cls ≠ "java/lang/invoke/VarHandle" ∧ (parseMethodDescriptor yX4_roadsOf.desc).map (fun d => d.parameters.length) = some 1 := by decide +kernel
set_option maxRecDepth 20000 in
theorem wdX4_roadsOf : Cond.code yX4_roadsOf cX4_roadsOf 4 (some .int) ∈ rk_T := rk_in 530 rfl rfl
theorem wvX4_roadsOf : Cond.instanceMethod yX4_roadsOf ∈ rk_T := rk_in 528 (by decide +kernel) rfl
theorem weX4_roadsOf : Cond.selects RX4 yX4_roadsOf yX4_roadsOf ∈ rk_T := rk_in 529 (by decide +kernel) rfl
theorem wmX6_187 : Cond.methodLink RX6 187 yX4_roadsOf ∈ rk_T := rk_in 527 (by decide +kernel) rfl
theorem npX4_firstRanks : yX4_firstRanks.cls ≠ "java/lang/invoke/MethodHandle" ∧ yX4_firstRanks.cls ≠ "java/lang/invoke/VarHandle" ∧ (parseMethodDescriptor yX4_firstRanks.desc).map (fun d => d.parameters.length) = some 1 := by decide +kernel
set_option maxRecDepth 20000 in
theorem wdX4_firstRanks : Cond.code yX4_firstRanks cX4_firstRanks 4 (some .int) ∈ rk_T := rk_in 526 rfl rfl
