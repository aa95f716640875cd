/-! the kinds of cells, by tag: an object of class t is (t, number); an array of the field f of class c is (100 (c + 1) + f, number) -/
def mmKo (t : Nat) : Option Nat := if t < 12 ∧ t ≠ 9 then some t else none
def mmKnL : List Nat := [7, 3, 4, 15, 3, 13, 17, 1, 9, 0, 12, 89]
def mmKn (c : Nat) : Nat := mmKnL.getD c 0
def mmKtL : List (List Nat) := [[3, 3, 3, 3, 0, 3, 3], [3, 3, 0], [3, 0, 0, 0], [0, 3, 3, 3, 3, 3, 3, 3, 3, 3, 3, 0, 3, 3, 0], [3, 0, 0], [0, 0, 3, 3, 3, 0, 3, 0, 3, 3, 0, 3, 3], [0, 0, 0, 0, 0, 0, 0, 1, 3, 3, 3, 3, 3, 3, 3, 3, 3], [3], [3, 0, 0, 0, 0, 0, 0, 0, 0], [], [3, 3, 3, 3, 3, 3, 1, 3, 3, 3, 3, 0], [3, 0, 0, 3, 0, 0, 0, 0, 0, 0, 0, 0, 0, 0, 0, 0, 0, 0, 0, 0, 1, 1, 0, 0, 0, 0, 0, 0, 0, 0, 1, 1, 1, 1, 1, 3, 3, 3, 3, 3, 3, 3, 3, 3, 3, 3, 3, 0, 3, 3, 0, 0, 0, 0, 1, 1, 3, 3, 1, 3, 0, 3, 3, 0, 0, 3, 3, 3, 0, 0, 3, 3, 3, 3, 3, 3, 3, 3, 3, 3, 3, 3, 1, 0, 0, 0, 3, 3, 3]]
def mmKt (c f : Nat) : Nat := (mmKtL.getD c []).getD f 0
def mmKA : List (Nat × Nat × Int) := [(101, 0, 25), (102, 0, 2), (103, 0, 2), (105, 0, 8), (106, 0, 25), (200, 0, 64), (201, 2, 64), (300, 0, 72), (401, 0, 16), (402, 0, 16), (403, 0, 16), (404, 0, 16), (405, 0, 16), (406, 0, 16), (407, 0, 16), (408, 0, 96), (409, 0, 96), (410, 0, 96), (412, 0, 20), (413, 0, 20), (603, 0, 60), (604, 0, 60), (606, 0, 200), (608, 0, 96), (609, 0, 16), (611, 2, 61), (612, 2, 61), (708, 0, 4), (709, 1, 4), (710, 1, 4), (711, 0, 4), (712, 0, 32), (713, 0, 32), (714, 0, 25), (715, 1, 2), (800, 4, 6), (850, 0, 200), (900, 0, 700), (1107, 3, 4), (1109, 0, 16), (1200, 0, 700), (1203, 0, 95), (1235, 0, 8), (1236, 1, 8), (1237, 1, 8), (1238, 0, 8), (1239, 0, 64), (1240, 0, 64), (1241, 0, 16), (1242, 0, 16), (1243, 0, 16), (1244, 0, 128), (1245, 0, 128), (1246, 0, 128), (1248, 0, 96), (1249, 0, 96), (1256, 2, 8), (1257, 2, 64), (1259, 0, 1800), (1261, 0, 72), (1262, 0, 14400), (1265, 0, 60), (1266, 0, 60), (1267, 0, 60), (1270, 0, 16), (1271, 0, 16), (1272, 0, 16), (1273, 0, 16), (1274, 0, 16), (1275, 0, 16), (1276, 0, 288), (1277, 0, 20), (1278, 0, 20), (1279, 0, 16), (1280, 0, 16), (1281, 0, 60), (1286, 0, 96), (1287, 0, 288), (1288, 0, 40), (1300, 2, 1)]
def mmKe (t : Nat) : Nat := match mmKA.find? (fun q => q.1 == t) with
  | some q => q.2.1
  | none => 9
def mmLen (t : Nat) : Int := match mmKA.find? (fun q => q.1 == t) with
  | some q => q.2.2
  | none => 0
theorem mmKe_101 : mmKe 101 = 0 := by decide +kernel
theorem mmLen_101 : mmLen 101 = 25 := by decide +kernel
theorem mmKe_102 : mmKe 102 = 0 := by decide +kernel
theorem mmLen_102 : mmLen 102 = 2 := by decide +kernel
theorem mmKe_103 : mmKe 103 = 0 := by decide +kernel
theorem mmLen_103 : mmLen 103 = 2 := by decide +kernel
theorem mmKe_105 : mmKe 105 = 0 := by decide +kernel
theorem mmLen_105 : mmLen 105 = 8 := by decide +kernel
theorem mmKe_106 : mmKe 106 = 0 := by decide +kernel
theorem mmLen_106 : mmLen 106 = 25 := by decide +kernel
theorem mmKe_200 : mmKe 200 = 0 := by decide +kernel
theorem mmLen_200 : mmLen 200 = 64 := by decide +kernel
theorem mmKe_201 : mmKe 201 = 2 := by decide +kernel
theorem mmLen_201 : mmLen 201 = 64 := by decide +kernel
theorem mmKe_300 : mmKe 300 = 0 := by decide +kernel
theorem mmLen_300 : mmLen 300 = 72 := by decide +kernel
theorem mmKe_401 : mmKe 401 = 0 := by decide +kernel
theorem mmLen_401 : mmLen 401 = 16 := by decide +kernel
theorem mmKe_402 : mmKe 402 = 0 := by decide +kernel
theorem mmLen_402 : mmLen 402 = 16 := by decide +kernel
theorem mmKe_403 : mmKe 403 = 0 := by decide +kernel
theorem mmLen_403 : mmLen 403 = 16 := by decide +kernel
theorem mmKe_404 : mmKe 404 = 0 := by decide +kernel
theorem mmLen_404 : mmLen 404 = 16 := by decide +kernel
theorem mmKe_405 : mmKe 405 = 0 := by decide +kernel
theorem mmLen_405 : mmLen 405 = 16 := by decide +kernel
theorem mmKe_406 : mmKe 406 = 0 := by decide +kernel
theorem mmLen_406 : mmLen 406 = 16 := by decide +kernel
theorem mmKe_407 : mmKe 407 = 0 := by decide +kernel
theorem mmLen_407 : mmLen 407 = 16 := by decide +kernel
theorem mmKe_408 : mmKe 408 = 0 := by decide +kernel
theorem mmLen_408 : mmLen 408 = 96 := by decide +kernel
theorem mmKe_409 : mmKe 409 = 0 := by decide +kernel
theorem mmLen_409 : mmLen 409 = 96 := by decide +kernel
theorem mmKe_410 : mmKe 410 = 0 := by decide +kernel
theorem mmLen_410 : mmLen 410 = 96 := by decide +kernel
theorem mmKe_412 : mmKe 412 = 0 := by decide +kernel
theorem mmLen_412 : mmLen 412 = 20 := by decide +kernel
theorem mmKe_413 : mmKe 413 = 0 := by decide +kernel
theorem mmLen_413 : mmLen 413 = 20 := by decide +kernel
theorem mmKe_603 : mmKe 603 = 0 := by decide +kernel
theorem mmLen_603 : mmLen 603 = 60 := by decide +kernel
theorem mmKe_604 : mmKe 604 = 0 := by decide +kernel
theorem mmLen_604 : mmLen 604 = 60 := by decide +kernel
theorem mmKe_606 : mmKe 606 = 0 := by decide +kernel
theorem mmLen_606 : mmLen 606 = 200 := by decide +kernel
theorem mmKe_608 : mmKe 608 = 0 := by decide +kernel
theorem mmLen_608 : mmLen 608 = 96 := by decide +kernel
theorem mmKe_609 : mmKe 609 = 0 := by decide +kernel
theorem mmLen_609 : mmLen 609 = 16 := by decide +kernel
theorem mmKe_611 : mmKe 611 = 2 := by decide +kernel
theorem mmLen_611 : mmLen 611 = 61 := by decide +kernel
theorem mmKe_612 : mmKe 612 = 2 := by decide +kernel
theorem mmLen_612 : mmLen 612 = 61 := by decide +kernel
theorem mmKe_708 : mmKe 708 = 0 := by decide +kernel
theorem mmLen_708 : mmLen 708 = 4 := by decide +kernel
theorem mmKe_709 : mmKe 709 = 1 := by decide +kernel
theorem mmLen_709 : mmLen 709 = 4 := by decide +kernel
theorem mmKe_710 : mmKe 710 = 1 := by decide +kernel
theorem mmLen_710 : mmLen 710 = 4 := by decide +kernel
theorem mmKe_711 : mmKe 711 = 0 := by decide +kernel
theorem mmLen_711 : mmLen 711 = 4 := by decide +kernel
theorem mmKe_712 : mmKe 712 = 0 := by decide +kernel
theorem mmLen_712 : mmLen 712 = 32 := by decide +kernel
theorem mmKe_713 : mmKe 713 = 0 := by decide +kernel
theorem mmLen_713 : mmLen 713 = 32 := by decide +kernel
theorem mmKe_714 : mmKe 714 = 0 := by decide +kernel
theorem mmLen_714 : mmLen 714 = 25 := by decide +kernel
theorem mmKe_715 : mmKe 715 = 1 := by decide +kernel
theorem mmLen_715 : mmLen 715 = 2 := by decide +kernel
theorem mmKe_800 : mmKe 800 = 4 := by decide +kernel
theorem mmLen_800 : mmLen 800 = 6 := by decide +kernel
theorem mmKe_850 : mmKe 850 = 0 := by decide +kernel
theorem mmLen_850 : mmLen 850 = 200 := by decide +kernel
theorem mmKe_900 : mmKe 900 = 0 := by decide +kernel
theorem mmLen_900 : mmLen 900 = 700 := by decide +kernel
theorem mmKe_1107 : mmKe 1107 = 3 := by decide +kernel
theorem mmLen_1107 : mmLen 1107 = 4 := by decide +kernel
theorem mmKe_1109 : mmKe 1109 = 0 := by decide +kernel
theorem mmLen_1109 : mmLen 1109 = 16 := by decide +kernel
theorem mmKe_1200 : mmKe 1200 = 0 := by decide +kernel
theorem mmLen_1200 : mmLen 1200 = 700 := by decide +kernel
theorem mmKe_1203 : mmKe 1203 = 0 := by decide +kernel
theorem mmLen_1203 : mmLen 1203 = 95 := by decide +kernel
theorem mmKe_1235 : mmKe 1235 = 0 := by decide +kernel
theorem mmLen_1235 : mmLen 1235 = 8 := by decide +kernel
theorem mmKe_1236 : mmKe 1236 = 1 := by decide +kernel
theorem mmLen_1236 : mmLen 1236 = 8 := by decide +kernel
theorem mmKe_1237 : mmKe 1237 = 1 := by decide +kernel
theorem mmLen_1237 : mmLen 1237 = 8 := by decide +kernel
theorem mmKe_1238 : mmKe 1238 = 0 := by decide +kernel
theorem mmLen_1238 : mmLen 1238 = 8 := by decide +kernel
theorem mmKe_1239 : mmKe 1239 = 0 := by decide +kernel
theorem mmLen_1239 : mmLen 1239 = 64 := by decide +kernel
theorem mmKe_1240 : mmKe 1240 = 0 := by decide +kernel
theorem mmLen_1240 : mmLen 1240 = 64 := by decide +kernel
theorem mmKe_1241 : mmKe 1241 = 0 := by decide +kernel
theorem mmLen_1241 : mmLen 1241 = 16 := by decide +kernel
theorem mmKe_1242 : mmKe 1242 = 0 := by decide +kernel
theorem mmLen_1242 : mmLen 1242 = 16 := by decide +kernel
theorem mmKe_1243 : mmKe 1243 = 0 := by decide +kernel
theorem mmLen_1243 : mmLen 1243 = 16 := by decide +kernel
theorem mmKe_1244 : mmKe 1244 = 0 := by decide +kernel
theorem mmLen_1244 : mmLen 1244 = 128 := by decide +kernel
theorem mmKe_1245 : mmKe 1245 = 0 := by decide +kernel
theorem mmLen_1245 : mmLen 1245 = 128 := by decide +kernel
theorem mmKe_1246 : mmKe 1246 = 0 := by decide +kernel
theorem mmLen_1246 : mmLen 1246 = 128 := by decide +kernel
theorem mmKe_1248 : mmKe 1248 = 0 := by decide +kernel
theorem mmLen_1248 : mmLen 1248 = 96 := by decide +kernel
theorem mmKe_1249 : mmKe 1249 = 0 := by decide +kernel
theorem mmLen_1249 : mmLen 1249 = 96 := by decide +kernel
theorem mmKe_1256 : mmKe 1256 = 2 := by decide +kernel
theorem mmLen_1256 : mmLen 1256 = 8 := by decide +kernel
theorem mmKe_1257 : mmKe 1257 = 2 := by decide +kernel
theorem mmLen_1257 : mmLen 1257 = 64 := by decide +kernel
theorem mmKe_1259 : mmKe 1259 = 0 := by decide +kernel
theorem mmLen_1259 : mmLen 1259 = 1800 := by decide +kernel
theorem mmKe_1261 : mmKe 1261 = 0 := by decide +kernel
theorem mmLen_1261 : mmLen 1261 = 72 := by decide +kernel
theorem mmKe_1262 : mmKe 1262 = 0 := by decide +kernel
theorem mmLen_1262 : mmLen 1262 = 14400 := by decide +kernel
theorem mmKe_1265 : mmKe 1265 = 0 := by decide +kernel
theorem mmLen_1265 : mmLen 1265 = 60 := by decide +kernel
theorem mmKe_1266 : mmKe 1266 = 0 := by decide +kernel
theorem mmLen_1266 : mmLen 1266 = 60 := by decide +kernel
theorem mmKe_1267 : mmKe 1267 = 0 := by decide +kernel
theorem mmLen_1267 : mmLen 1267 = 60 := by decide +kernel
theorem mmKe_1270 : mmKe 1270 = 0 := by decide +kernel
theorem mmLen_1270 : mmLen 1270 = 16 := by decide +kernel
theorem mmKe_1271 : mmKe 1271 = 0 := by decide +kernel
theorem mmLen_1271 : mmLen 1271 = 16 := by decide +kernel
theorem mmKe_1272 : mmKe 1272 = 0 := by decide +kernel
theorem mmLen_1272 : mmLen 1272 = 16 := by decide +kernel
theorem mmKe_1273 : mmKe 1273 = 0 := by decide +kernel
theorem mmLen_1273 : mmLen 1273 = 16 := by decide +kernel
theorem mmKe_1274 : mmKe 1274 = 0 := by decide +kernel
theorem mmLen_1274 : mmLen 1274 = 16 := by decide +kernel
theorem mmKe_1275 : mmKe 1275 = 0 := by decide +kernel
theorem mmLen_1275 : mmLen 1275 = 16 := by decide +kernel
theorem mmKe_1276 : mmKe 1276 = 0 := by decide +kernel
theorem mmLen_1276 : mmLen 1276 = 288 := by decide +kernel
theorem mmKe_1277 : mmKe 1277 = 0 := by decide +kernel
theorem mmLen_1277 : mmLen 1277 = 20 := by decide +kernel
theorem mmKe_1278 : mmKe 1278 = 0 := by decide +kernel
theorem mmLen_1278 : mmLen 1278 = 20 := by decide +kernel
theorem mmKe_1279 : mmKe 1279 = 0 := by decide +kernel
theorem mmLen_1279 : mmLen 1279 = 16 := by decide +kernel
theorem mmKe_1280 : mmKe 1280 = 0 := by decide +kernel
theorem mmLen_1280 : mmLen 1280 = 16 := by decide +kernel
theorem mmKe_1281 : mmKe 1281 = 0 := by decide +kernel
theorem mmLen_1281 : mmLen 1281 = 60 := by decide +kernel
theorem mmKe_1286 : mmKe 1286 = 0 := by decide +kernel
theorem mmLen_1286 : mmLen 1286 = 96 := by decide +kernel
theorem mmKe_1287 : mmKe 1287 = 0 := by decide +kernel
theorem mmLen_1287 : mmLen 1287 = 288 := by decide +kernel
theorem mmKe_1288 : mmKe 1288 = 0 := by decide +kernel
theorem mmLen_1288 : mmLen 1288 = 40 := by decide +kernel
theorem mmKe_1300 : mmKe 1300 = 2 := by decide +kernel
theorem mmLen_1300 : mmLen 1300 = 1 := by decide +kernel
theorem mmKo_0 : mmKo 0 = some 0 := by decide +kernel
theorem mmKo_1 : mmKo 1 = some 1 := by decide +kernel
theorem mmKo_2 : mmKo 2 = some 2 := by decide +kernel
theorem mmKo_3 : mmKo 3 = some 3 := by decide +kernel
theorem mmKo_4 : mmKo 4 = some 4 := by decide +kernel
theorem mmKo_5 : mmKo 5 = some 5 := by decide +kernel
theorem mmKo_6 : mmKo 6 = some 6 := by decide +kernel
theorem mmKo_7 : mmKo 7 = some 7 := by decide +kernel
theorem mmKo_8 : mmKo 8 = some 8 := by decide +kernel
theorem mmKo_10 : mmKo 10 = some 10 := by decide +kernel
theorem mmKo_11 : mmKo 11 = some 11 := by decide +kernel
/-- the classes whose objects the world holds -/
abbrev mmCl : List vw_C := [(RX0, TX0, 7), (RX1, TX1, 3), (RX2, TX2, 4), (RX3, TX3, 15), (RX4, TX4, 3), (RX5, TX5, 13), (RX6, TX6, 17), (RX7, TX7, 1), (RX8, TX8, 9), (RX8, TX9, 0), (RX10, TX10, 12), (RX11, TX11, 89)]
