/-! the cells: 0 RoadStrokes, 1 Net, 2 Net.x, 3 Net.y, 4 Net.first, 5 Net.second, 6 Net.kind, 7 Net.use, 8 Net.length, 9 Net.wasRoad, 10 Joins, 11 Joins.atFirst, 12 Joins.atSecond, 13 Joins.free, 14 Joins.stepX, 15 Joins.stepY, 16 Strokes, 17 Strokes.ofRoad, 18 Strokes.roads, 19 Strokes.length, 20 Strokes.worth, 21 Strokes.meetings, 22 Strokes.ends, 23 Strokes.touched, 24 Strokes.byRank, 25 Strokes.rankOf, 26 Strokes.netOf, 27 Strokes.worthUpTo, 28 Strokes.partners, 29 Ways, 30 Ways.distance, 31 Ways.near, 32 Cutting, 33 rows, 34 Row0, 35 Row0.items, 36 Row1, 37 Row1.items, 38 Row2, 39 Row2.items, 40 Row3, 41 Row3.items, 42 Model, 43 Model.xs, 44 Model.ys, 45 Model.ends, 46 Model.kinds, 47 Model.uses, 48 Model.added, 49 Model.joins, 50 Model.strokeOf, 51 Model.roadBits, 52 Model.meetingBits, 53 Model.lengths, 54 Model.worths, 55 Model.closed, 56 Model.byRank, 57 Model.rankOf, 58 Model.netOf, 59 Model.fars, 60 Model.isThere, 61 Model.forms, 62 Model.sizes, 63 Model.items, 64 Model.moved -/
def rk_N : Nat := 65
def rk_ob (c : Nat) : Nat := [7, 3, 0, 0, 0, 0, 0, 0, 0, 0, 2, 0, 0, 0, 0, 0, 5, 0, 0, 0, 0, 0, 0, 0, 0, 0, 0, 0, 0, 6, 0, 0, 1, 0, 4, 0, 4, 0, 4, 0, 4, 0, 8, 0, 0, 0, 0, 0, 0, 0, 0, 0, 0, 0, 0, 0, 0, 0, 0, 0, 0, 0, 0, 0, 0].getD c 0
def rk_kd (c : Nat) : Nat := [0, 0, 1, 1, 1, 1, 1, 1, 1, 2, 0, 1, 1, 1, 1, 1, 0, 1, 1, 1, 1, 1, 1, 1, 1, 1, 1, 1, 1, 0, 1, 1, 0, 3, 0, 1, 0, 1, 0, 1, 0, 1, 0, 1, 1, 1, 1, 1, 1, 1, 1, 1, 1, 1, 1, 1, 1, 1, 1, 1, 2, 1, 1, 1, 1].getD c 0
def rk_ln (c : Nat) : Nat := [0, 0, 16, 16, 24, 24, 24, 24, 24, 40, 0, 24, 24, 24, 24, 24, 0, 24, 24, 24, 24, 24, 24, 24, 24, 24, 24, 24, 24, 0, 16, 16, 0, 4, 0, 60, 0, 60, 0, 60, 0, 60, 0, 16, 16, 48, 24, 24, 40, 48, 24, 24, 24, 24, 24, 24, 24, 24, 24, 16, 4, 4, 4, 240, 60].getD c 0
def rk_rf (c k : Nat) : Nat := ([[1, 10, 16, 29, 32, 33, 0], [2, 3, 4, 5, 6, 7, 8, 0, 0, 9], [], [], [], [], [], [], [], [], [0, 1, 11, 12, 13, 14, 15, 0, 0, 0, 0, 0], [], [], [], [], [], [17, 18, 19, 20, 21, 22, 23, 24, 25, 26, 27, 0, 0, 1, 10, 28], [], [], [], [], [], [], [], [], [], [], [], [], [1, 30, 31], [], [], [16, 0, 0, 0], [], [35, 0, 0], [], [37, 0, 0], [], [39, 0, 0], [], [41, 0, 0], [], [0, 43, 44, 0, 45, 46, 47, 0, 48, 49, 0, 0, 50, 51, 52, 53, 54, 55, 0, 0, 56, 57, 58, 59, 0, 0, 0, 60, 61, 62, 63, 64, 0], [], [], [], [], [], [], [], [], [], [], [], [], [], [], [], [], [], [], [], [], [], []].getD c []).getD k 0
def rk_fk (ci : Nat) : List Nat := [[2, 0, 0, 0], [0, 2, 2, 2, 2, 2, 2, 0, 0, 0, 1, 1], [2, 2, 2, 2, 2, 2, 2, 0, 0, 2], [2, 0, 0], [2, 2, 2, 2, 2, 2, 2, 2, 2, 2, 2, 0, 0, 2, 2, 2], [2, 2, 2], [2, 2, 2, 2, 2, 2, 0], [0, 2, 2, 0, 2, 2, 2, 0, 2, 2, 0, 0, 2, 2, 2, 2, 2, 2, 0, 0, 2, 2, 2, 2, 0, 0, 0, 2, 2, 2, 2, 2, 0]].getD ci []
def rk_row (s : Nat) : Nat := 34 + 2 * s
def rk_nest : List (String × Nat × MethodName) := [("RoadStrokes$Net", 44, ⟨"RoadStrokes", "isPlace", "(I)Z"⟩), ("RoadStrokes$Net", 55, ⟨"RoadStrokes", "isKind", "(I)Z"⟩), ("RoadStrokes$Net", 58, ⟨"RoadStrokes", "isUse", "(I)Z"⟩), ("RoadStrokes$Strokes", 77, ⟨"RoadStrokes", "hasBit", "(II)Z"⟩), ("RoadStrokes$Strokes", 98, ⟨"RoadStrokes", "reached", "(II[I)I"⟩), ("RoadStrokes$Ways", 37, ⟨"RoadStrokes", "hasBit", "(II)Z"⟩), ("RoadStrokes$Cutting", 37, ⟨"RoadStrokes", "hasBit", "(II)Z"⟩), ("RoadStrokes$Cutting", 64, ⟨"RoadStrokes", "reached", "(II[I)I"⟩), ("RoadStrokes$Ways", 57, ⟨"RoadStrokes", "reached", "(II[I)I"⟩)]
theorem rk_ob_0 : rk_ob 0 = 7 := rfl
theorem rk_ob_1 : rk_ob 1 = 3 := rfl
theorem rk_ob_2 : rk_ob 2 = 0 := rfl
theorem rk_kd_2 : rk_kd 2 = 1 := rfl
theorem rk_ln_2 : rk_ln 2 = 16 := rfl
theorem rk_ob_3 : rk_ob 3 = 0 := rfl
theorem rk_kd_3 : rk_kd 3 = 1 := rfl
theorem rk_ln_3 : rk_ln 3 = 16 := rfl
theorem rk_ob_4 : rk_ob 4 = 0 := rfl
theorem rk_kd_4 : rk_kd 4 = 1 := rfl
theorem rk_ln_4 : rk_ln 4 = 24 := rfl
theorem rk_ob_5 : rk_ob 5 = 0 := rfl
theorem rk_kd_5 : rk_kd 5 = 1 := rfl
theorem rk_ln_5 : rk_ln 5 = 24 := rfl
theorem rk_ob_6 : rk_ob 6 = 0 := rfl
theorem rk_kd_6 : rk_kd 6 = 1 := rfl
theorem rk_ln_6 : rk_ln 6 = 24 := rfl
theorem rk_ob_7 : rk_ob 7 = 0 := rfl
theorem rk_kd_7 : rk_kd 7 = 1 := rfl
theorem rk_ln_7 : rk_ln 7 = 24 := rfl
theorem rk_ob_8 : rk_ob 8 = 0 := rfl
theorem rk_kd_8 : rk_kd 8 = 1 := rfl
theorem rk_ln_8 : rk_ln 8 = 24 := rfl
theorem rk_ob_9 : rk_ob 9 = 0 := rfl
theorem rk_kd_9 : rk_kd 9 = 2 := rfl
theorem rk_ln_9 : rk_ln 9 = 40 := rfl
theorem rk_ob_10 : rk_ob 10 = 2 := rfl
theorem rk_ob_11 : rk_ob 11 = 0 := rfl
theorem rk_kd_11 : rk_kd 11 = 1 := rfl
theorem rk_ln_11 : rk_ln 11 = 24 := rfl
theorem rk_ob_12 : rk_ob 12 = 0 := rfl
theorem rk_kd_12 : rk_kd 12 = 1 := rfl
theorem rk_ln_12 : rk_ln 12 = 24 := rfl
theorem rk_ob_13 : rk_ob 13 = 0 := rfl
theorem rk_kd_13 : rk_kd 13 = 1 := rfl
theorem rk_ln_13 : rk_ln 13 = 24 := rfl
theorem rk_ob_14 : rk_ob 14 = 0 := rfl
theorem rk_kd_14 : rk_kd 14 = 1 := rfl
theorem rk_ln_14 : rk_ln 14 = 24 := rfl
theorem rk_ob_15 : rk_ob 15 = 0 := rfl
theorem rk_kd_15 : rk_kd 15 = 1 := rfl
theorem rk_ln_15 : rk_ln 15 = 24 := rfl
theorem rk_ob_16 : rk_ob 16 = 5 := rfl
theorem rk_ob_17 : rk_ob 17 = 0 := rfl
theorem rk_kd_17 : rk_kd 17 = 1 := rfl
theorem rk_ln_17 : rk_ln 17 = 24 := rfl
theorem rk_ob_18 : rk_ob 18 = 0 := rfl
theorem rk_kd_18 : rk_kd 18 = 1 := rfl
theorem rk_ln_18 : rk_ln 18 = 24 := rfl
theorem rk_ob_19 : rk_ob 19 = 0 := rfl
theorem rk_kd_19 : rk_kd 19 = 1 := rfl
theorem rk_ln_19 : rk_ln 19 = 24 := rfl
theorem rk_ob_20 : rk_ob 20 = 0 := rfl
theorem rk_kd_20 : rk_kd 20 = 1 := rfl
theorem rk_ln_20 : rk_ln 20 = 24 := rfl
theorem rk_ob_21 : rk_ob 21 = 0 := rfl
theorem rk_kd_21 : rk_kd 21 = 1 := rfl
theorem rk_ln_21 : rk_ln 21 = 24 := rfl
theorem rk_ob_22 : rk_ob 22 = 0 := rfl
theorem rk_kd_22 : rk_kd 22 = 1 := rfl
theorem rk_ln_22 : rk_ln 22 = 24 := rfl
theorem rk_ob_23 : rk_ob 23 = 0 := rfl
theorem rk_kd_23 : rk_kd 23 = 1 := rfl
theorem rk_ln_23 : rk_ln 23 = 24 := rfl
theorem rk_ob_24 : rk_ob 24 = 0 := rfl
theorem rk_kd_24 : rk_kd 24 = 1 := rfl
theorem rk_ln_24 : rk_ln 24 = 24 := rfl
theorem rk_ob_25 : rk_ob 25 = 0 := rfl
theorem rk_kd_25 : rk_kd 25 = 1 := rfl
theorem rk_ln_25 : rk_ln 25 = 24 := rfl
theorem rk_ob_26 : rk_ob 26 = 0 := rfl
theorem rk_kd_26 : rk_kd 26 = 1 := rfl
theorem rk_ln_26 : rk_ln 26 = 24 := rfl
theorem rk_ob_27 : rk_ob 27 = 0 := rfl
theorem rk_kd_27 : rk_kd 27 = 1 := rfl
theorem rk_ln_27 : rk_ln 27 = 24 := rfl
theorem rk_ob_28 : rk_ob 28 = 0 := rfl
theorem rk_kd_28 : rk_kd 28 = 1 := rfl
theorem rk_ln_28 : rk_ln 28 = 24 := rfl
theorem rk_ob_29 : rk_ob 29 = 6 := rfl
theorem rk_ob_30 : rk_ob 30 = 0 := rfl
theorem rk_kd_30 : rk_kd 30 = 1 := rfl
theorem rk_ln_30 : rk_ln 30 = 16 := rfl
theorem rk_ob_31 : rk_ob 31 = 0 := rfl
theorem rk_kd_31 : rk_kd 31 = 1 := rfl
theorem rk_ln_31 : rk_ln 31 = 16 := rfl
theorem rk_ob_32 : rk_ob 32 = 1 := rfl
theorem rk_ob_33 : rk_ob 33 = 0 := rfl
theorem rk_kd_33 : rk_kd 33 = 3 := rfl
theorem rk_ln_33 : rk_ln 33 = 4 := rfl
theorem rk_ob_34 : rk_ob 34 = 4 := rfl
theorem rk_ob_35 : rk_ob 35 = 0 := rfl
theorem rk_kd_35 : rk_kd 35 = 1 := rfl
theorem rk_ln_35 : rk_ln 35 = 60 := rfl
theorem rk_ob_36 : rk_ob 36 = 4 := rfl
theorem rk_ob_37 : rk_ob 37 = 0 := rfl
theorem rk_kd_37 : rk_kd 37 = 1 := rfl
theorem rk_ln_37 : rk_ln 37 = 60 := rfl
theorem rk_ob_38 : rk_ob 38 = 4 := rfl
theorem rk_ob_39 : rk_ob 39 = 0 := rfl
theorem rk_kd_39 : rk_kd 39 = 1 := rfl
theorem rk_ln_39 : rk_ln 39 = 60 := rfl
theorem rk_ob_40 : rk_ob 40 = 4 := rfl
theorem rk_ob_41 : rk_ob 41 = 0 := rfl
theorem rk_kd_41 : rk_kd 41 = 1 := rfl
theorem rk_ln_41 : rk_ln 41 = 60 := rfl
theorem rk_ob_42 : rk_ob 42 = 8 := rfl
theorem rk_ob_43 : rk_ob 43 = 0 := rfl
theorem rk_kd_43 : rk_kd 43 = 1 := rfl
theorem rk_ln_43 : rk_ln 43 = 16 := rfl
theorem rk_ob_44 : rk_ob 44 = 0 := rfl
theorem rk_kd_44 : rk_kd 44 = 1 := rfl
theorem rk_ln_44 : rk_ln 44 = 16 := rfl
theorem rk_ob_45 : rk_ob 45 = 0 := rfl
theorem rk_kd_45 : rk_kd 45 = 1 := rfl
theorem rk_ln_45 : rk_ln 45 = 48 := rfl
theorem rk_ob_46 : rk_ob 46 = 0 := rfl
theorem rk_kd_46 : rk_kd 46 = 1 := rfl
theorem rk_ln_46 : rk_ln 46 = 24 := rfl
theorem rk_ob_47 : rk_ob 47 = 0 := rfl
theorem rk_kd_47 : rk_kd 47 = 1 := rfl
theorem rk_ln_47 : rk_ln 47 = 24 := rfl
theorem rk_ob_48 : rk_ob 48 = 0 := rfl
theorem rk_kd_48 : rk_kd 48 = 1 := rfl
theorem rk_ln_48 : rk_ln 48 = 40 := rfl
theorem rk_ob_49 : rk_ob 49 = 0 := rfl
theorem rk_kd_49 : rk_kd 49 = 1 := rfl
theorem rk_ln_49 : rk_ln 49 = 48 := rfl
theorem rk_ob_50 : rk_ob 50 = 0 := rfl
theorem rk_kd_50 : rk_kd 50 = 1 := rfl
theorem rk_ln_50 : rk_ln 50 = 24 := rfl
theorem rk_ob_51 : rk_ob 51 = 0 := rfl
theorem rk_kd_51 : rk_kd 51 = 1 := rfl
theorem rk_ln_51 : rk_ln 51 = 24 := rfl
theorem rk_ob_52 : rk_ob 52 = 0 := rfl
theorem rk_kd_52 : rk_kd 52 = 1 := rfl
theorem rk_ln_52 : rk_ln 52 = 24 := rfl
theorem rk_ob_53 : rk_ob 53 = 0 := rfl
theorem rk_kd_53 : rk_kd 53 = 1 := rfl
theorem rk_ln_53 : rk_ln 53 = 24 := rfl
theorem rk_ob_54 : rk_ob 54 = 0 := rfl
theorem rk_kd_54 : rk_kd 54 = 1 := rfl
theorem rk_ln_54 : rk_ln 54 = 24 := rfl
theorem rk_ob_55 : rk_ob 55 = 0 := rfl
theorem rk_kd_55 : rk_kd 55 = 1 := rfl
theorem rk_ln_55 : rk_ln 55 = 24 := rfl
theorem rk_ob_56 : rk_ob 56 = 0 := rfl
theorem rk_kd_56 : rk_kd 56 = 1 := rfl
theorem rk_ln_56 : rk_ln 56 = 24 := rfl
theorem rk_ob_57 : rk_ob 57 = 0 := rfl
theorem rk_kd_57 : rk_kd 57 = 1 := rfl
theorem rk_ln_57 : rk_ln 57 = 24 := rfl
theorem rk_ob_58 : rk_ob 58 = 0 := rfl
theorem rk_kd_58 : rk_kd 58 = 1 := rfl
theorem rk_ln_58 : rk_ln 58 = 24 := rfl
theorem rk_ob_59 : rk_ob 59 = 0 := rfl
theorem rk_kd_59 : rk_kd 59 = 1 := rfl
theorem rk_ln_59 : rk_ln 59 = 16 := rfl
theorem rk_ob_60 : rk_ob 60 = 0 := rfl
theorem rk_kd_60 : rk_kd 60 = 2 := rfl
theorem rk_ln_60 : rk_ln 60 = 4 := rfl
theorem rk_ob_61 : rk_ob 61 = 0 := rfl
theorem rk_kd_61 : rk_kd 61 = 1 := rfl
theorem rk_ln_61 : rk_ln 61 = 4 := rfl
theorem rk_ob_62 : rk_ob 62 = 0 := rfl
theorem rk_kd_62 : rk_kd 62 = 1 := rfl
theorem rk_ln_62 : rk_ln 62 = 4 := rfl
theorem rk_ob_63 : rk_ob 63 = 0 := rfl
theorem rk_kd_63 : rk_kd 63 = 1 := rfl
theorem rk_ln_63 : rk_ln 63 = 240 := rfl
theorem rk_ob_64 : rk_ob 64 = 0 := rfl
theorem rk_kd_64 : rk_kd 64 = 1 := rfl
theorem rk_ln_64 : rk_ln 64 = 60 := rfl
theorem rk_rf_0_0 : rk_rf 0 0 = 1 := rfl
theorem rk_rf_0_1 : rk_rf 0 1 = 10 := rfl
theorem rk_rf_0_2 : rk_rf 0 2 = 16 := rfl
theorem rk_rf_0_3 : rk_rf 0 3 = 29 := rfl
theorem rk_rf_0_4 : rk_rf 0 4 = 32 := rfl
theorem rk_rf_0_5 : rk_rf 0 5 = 33 := rfl
theorem rk_rf_1_0 : rk_rf 1 0 = 2 := rfl
theorem rk_rf_1_1 : rk_rf 1 1 = 3 := rfl
theorem rk_rf_1_2 : rk_rf 1 2 = 4 := rfl
theorem rk_rf_1_3 : rk_rf 1 3 = 5 := rfl
theorem rk_rf_1_4 : rk_rf 1 4 = 6 := rfl
theorem rk_rf_1_5 : rk_rf 1 5 = 7 := rfl
theorem rk_rf_1_6 : rk_rf 1 6 = 8 := rfl
theorem rk_rf_1_9 : rk_rf 1 9 = 9 := rfl
theorem rk_rf_10_1 : rk_rf 10 1 = 1 := rfl
theorem rk_rf_10_2 : rk_rf 10 2 = 11 := rfl
theorem rk_rf_10_3 : rk_rf 10 3 = 12 := rfl
theorem rk_rf_10_4 : rk_rf 10 4 = 13 := rfl
theorem rk_rf_10_5 : rk_rf 10 5 = 14 := rfl
theorem rk_rf_10_6 : rk_rf 10 6 = 15 := rfl
theorem rk_rf_16_0 : rk_rf 16 0 = 17 := rfl
theorem rk_rf_16_1 : rk_rf 16 1 = 18 := rfl
theorem rk_rf_16_2 : rk_rf 16 2 = 19 := rfl
theorem rk_rf_16_3 : rk_rf 16 3 = 20 := rfl
theorem rk_rf_16_4 : rk_rf 16 4 = 21 := rfl
theorem rk_rf_16_5 : rk_rf 16 5 = 22 := rfl
theorem rk_rf_16_6 : rk_rf 16 6 = 23 := rfl
theorem rk_rf_16_7 : rk_rf 16 7 = 24 := rfl
theorem rk_rf_16_8 : rk_rf 16 8 = 25 := rfl
theorem rk_rf_16_9 : rk_rf 16 9 = 26 := rfl
theorem rk_rf_16_10 : rk_rf 16 10 = 27 := rfl
theorem rk_rf_16_13 : rk_rf 16 13 = 1 := rfl
theorem rk_rf_16_14 : rk_rf 16 14 = 10 := rfl
theorem rk_rf_16_15 : rk_rf 16 15 = 28 := rfl
theorem rk_rf_29_0 : rk_rf 29 0 = 1 := rfl
theorem rk_rf_29_1 : rk_rf 29 1 = 30 := rfl
theorem rk_rf_29_2 : rk_rf 29 2 = 31 := rfl
theorem rk_rf_32_0 : rk_rf 32 0 = 16 := rfl
theorem rk_rf_34_0 : rk_rf 34 0 = 35 := rfl
theorem rk_rf_36_0 : rk_rf 36 0 = 37 := rfl
theorem rk_rf_38_0 : rk_rf 38 0 = 39 := rfl
theorem rk_rf_40_0 : rk_rf 40 0 = 41 := rfl
theorem rk_rf_42_1 : rk_rf 42 1 = 43 := rfl
theorem rk_rf_42_2 : rk_rf 42 2 = 44 := rfl
theorem rk_rf_42_4 : rk_rf 42 4 = 45 := rfl
theorem rk_rf_42_5 : rk_rf 42 5 = 46 := rfl
theorem rk_rf_42_6 : rk_rf 42 6 = 47 := rfl
theorem rk_rf_42_8 : rk_rf 42 8 = 48 := rfl
theorem rk_rf_42_9 : rk_rf 42 9 = 49 := rfl
theorem rk_rf_42_12 : rk_rf 42 12 = 50 := rfl
theorem rk_rf_42_13 : rk_rf 42 13 = 51 := rfl
theorem rk_rf_42_14 : rk_rf 42 14 = 52 := rfl
theorem rk_rf_42_15 : rk_rf 42 15 = 53 := rfl
theorem rk_rf_42_16 : rk_rf 42 16 = 54 := rfl
theorem rk_rf_42_17 : rk_rf 42 17 = 55 := rfl
theorem rk_rf_42_20 : rk_rf 42 20 = 56 := rfl
theorem rk_rf_42_21 : rk_rf 42 21 = 57 := rfl
theorem rk_rf_42_22 : rk_rf 42 22 = 58 := rfl
theorem rk_rf_42_23 : rk_rf 42 23 = 59 := rfl
theorem rk_rf_42_27 : rk_rf 42 27 = 60 := rfl
theorem rk_rf_42_28 : rk_rf 42 28 = 61 := rfl
theorem rk_rf_42_29 : rk_rf 42 29 = 62 := rfl
theorem rk_rf_42_30 : rk_rf 42 30 = 63 := rfl
theorem rk_rf_42_31 : rk_rf 42 31 = 64 := rfl
