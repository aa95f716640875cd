/-- what the reference's making leaves -/
def MM (J J' : mMm) : Prop := (∀ t i k, ¬ t = 11 → ¬ (1203 ≤ t ∧ t ≤ 1290) → J' t i k = J t i k) ∧ (∀ k : Nat, k < 95 → J' 1203 0 k = wdL.getD k 0) ∧ (J' 11 0 1 = 0 ∧ J' 11 0 4 = 0 ∧ J' 11 0 5 = -1 ∧ J' 11 0 60 = 0 ∧ J' 11 0 68 = 0 ∧ J' 11 0 69 = 0 ∧ J' 11 0 82 = 0) ∧ BL J' ∧ ∀ r, RC r → RK r J'
section S891
variable {d i j a b : Nat} {I J : mMm} {R : Nat → Nat → Int → Option mmO} {X : mmX} {cnt : Nat → Nat} {Q : Option mmV → mmM → Prop}
/-- the words of the reference, laid one by one -/
def wdM (J : mMm) : Nat → mMm
  | 0 => J
  | n + 1 => mmU (wdM J n) 1203 0 n (wdL.getD n 0)
theorem wdM_o : ∀ (n : Nat) {t i : Nat} {k : Int}, ¬ (t = 1203 ∧ i = 0) → wdM J n t i k = J t i k
  | 0, _, _, _, _ => rfl
  | n + 1, t, i, k, h => by unfold wdM; rw [uO (by omega)]; exact wdM_o n h
theorem wdM_i : ∀ (n : Nat) (k : Nat), k < n → wdM J n 1203 0 k = wdL.getD k 0
  | 0, k, h => by omega
  | n + 1, k, h => by
    unfold wdM
    by_cases c : k = n
    · subst c; rw [uS]
    · rw [uO (by omega)]; exact wdM_i n k (by omega)
set_option maxHeartbeats 4000000 in
set_option maxRecDepth 100000 in
theorem k_model (z11 : ∀ k, J 11 0 k = 0) (za : ∀ t k, 1200 ≤ t → t ≤ 1290 → J t 0 k = 0) (hc : ∀ t, 1200 ≤ t → cnt t = 0) (hQ : ∀ (J' : mMm) (cnt' : Nat → Nat) (c s : Nat), MM J J' → cnt' 1300 = 0 → Q none (J', mmRf 0 (fun _ => none), cnt', c, s)) : mmC (d + 3) 142 [mo 11 0] (J, mmUr (mmRf 0 (fun _ => none)) 11 0 (fun _ => none), cnt, 39, 19043) Q := by
  have z1200 : ∀ k, J 1200 0 k = 0 := fun k => za 1200 k (by decide) (by decide)
  have z1203 : ∀ k, J 1203 0 k = 0 := fun k => za 1203 k (by decide) (by decide)
  have z1235 : ∀ k, J 1235 0 k = 0 := fun k => za 1235 k (by decide) (by decide)
  have z1236 : ∀ k, J 1236 0 k = 0 := fun k => za 1236 k (by decide) (by decide)
  have z1237 : ∀ k, J 1237 0 k = 0 := fun k => za 1237 k (by decide) (by decide)
  have z1238 : ∀ k, J 1238 0 k = 0 := fun k => za 1238 k (by decide) (by decide)
  have z1239 : ∀ k, J 1239 0 k = 0 := fun k => za 1239 k (by decide) (by decide)
  have z1240 : ∀ k, J 1240 0 k = 0 := fun k => za 1240 k (by decide) (by decide)
  have z1241 : ∀ k, J 1241 0 k = 0 := fun k => za 1241 k (by decide) (by decide)
  have z1242 : ∀ k, J 1242 0 k = 0 := fun k => za 1242 k (by decide) (by decide)
  have z1243 : ∀ k, J 1243 0 k = 0 := fun k => za 1243 k (by decide) (by decide)
  have z1244 : ∀ k, J 1244 0 k = 0 := fun k => za 1244 k (by decide) (by decide)
  have z1245 : ∀ k, J 1245 0 k = 0 := fun k => za 1245 k (by decide) (by decide)
  have z1246 : ∀ k, J 1246 0 k = 0 := fun k => za 1246 k (by decide) (by decide)
  have z1248 : ∀ k, J 1248 0 k = 0 := fun k => za 1248 k (by decide) (by decide)
  have z1249 : ∀ k, J 1249 0 k = 0 := fun k => za 1249 k (by decide) (by decide)
  have z1256 : ∀ k, J 1256 0 k = 0 := fun k => za 1256 k (by decide) (by decide)
  have z1257 : ∀ k, J 1257 0 k = 0 := fun k => za 1257 k (by decide) (by decide)
  have z1259 : ∀ k, J 1259 0 k = 0 := fun k => za 1259 k (by decide) (by decide)
  have z1261 : ∀ k, J 1261 0 k = 0 := fun k => za 1261 k (by decide) (by decide)
  have z1262 : ∀ k, J 1262 0 k = 0 := fun k => za 1262 k (by decide) (by decide)
  have z1265 : ∀ k, J 1265 0 k = 0 := fun k => za 1265 k (by decide) (by decide)
  have z1266 : ∀ k, J 1266 0 k = 0 := fun k => za 1266 k (by decide) (by decide)
  have z1267 : ∀ k, J 1267 0 k = 0 := fun k => za 1267 k (by decide) (by decide)
  have z1270 : ∀ k, J 1270 0 k = 0 := fun k => za 1270 k (by decide) (by decide)
  have z1271 : ∀ k, J 1271 0 k = 0 := fun k => za 1271 k (by decide) (by decide)
  have z1272 : ∀ k, J 1272 0 k = 0 := fun k => za 1272 k (by decide) (by decide)
  have z1273 : ∀ k, J 1273 0 k = 0 := fun k => za 1273 k (by decide) (by decide)
  have z1274 : ∀ k, J 1274 0 k = 0 := fun k => za 1274 k (by decide) (by decide)
  have z1275 : ∀ k, J 1275 0 k = 0 := fun k => za 1275 k (by decide) (by decide)
  have z1276 : ∀ k, J 1276 0 k = 0 := fun k => za 1276 k (by decide) (by decide)
  have z1277 : ∀ k, J 1277 0 k = 0 := fun k => za 1277 k (by decide) (by decide)
  have z1278 : ∀ k, J 1278 0 k = 0 := fun k => za 1278 k (by decide) (by decide)
  have z1279 : ∀ k, J 1279 0 k = 0 := fun k => za 1279 k (by decide) (by decide)
  have z1280 : ∀ k, J 1280 0 k = 0 := fun k => za 1280 k (by decide) (by decide)
  have z1281 : ∀ k, J 1281 0 k = 0 := fun k => za 1281 k (by decide) (by decide)
  have z1286 : ∀ k, J 1286 0 k = 0 := fun k => za 1286 k (by decide) (by decide)
  have z1287 : ∀ k, J 1287 0 k = 0 := fun k => za 1287 k (by decide) (by decide)
  have z1288 : ∀ k, J 1288 0 k = 0 := fun k => za 1288 k (by decide) (by decide)
  have c1200 : cnt 1200 = 0 := hc 1200 (by decide)
  have c1203 : cnt 1203 = 0 := hc 1203 (by decide)
  have c1235 : cnt 1235 = 0 := hc 1235 (by decide)
  have c1236 : cnt 1236 = 0 := hc 1236 (by decide)
  have c1237 : cnt 1237 = 0 := hc 1237 (by decide)
  have c1238 : cnt 1238 = 0 := hc 1238 (by decide)
  have c1239 : cnt 1239 = 0 := hc 1239 (by decide)
  have c1240 : cnt 1240 = 0 := hc 1240 (by decide)
  have c1241 : cnt 1241 = 0 := hc 1241 (by decide)
  have c1242 : cnt 1242 = 0 := hc 1242 (by decide)
  have c1243 : cnt 1243 = 0 := hc 1243 (by decide)
  have c1244 : cnt 1244 = 0 := hc 1244 (by decide)
  have c1245 : cnt 1245 = 0 := hc 1245 (by decide)
  have c1246 : cnt 1246 = 0 := hc 1246 (by decide)
  have c1248 : cnt 1248 = 0 := hc 1248 (by decide)
  have c1249 : cnt 1249 = 0 := hc 1249 (by decide)
  have c1256 : cnt 1256 = 0 := hc 1256 (by decide)
  have c1257 : cnt 1257 = 0 := hc 1257 (by decide)
  have c1259 : cnt 1259 = 0 := hc 1259 (by decide)
  have c1261 : cnt 1261 = 0 := hc 1261 (by decide)
  have c1262 : cnt 1262 = 0 := hc 1262 (by decide)
  have c1265 : cnt 1265 = 0 := hc 1265 (by decide)
  have c1266 : cnt 1266 = 0 := hc 1266 (by decide)
  have c1267 : cnt 1267 = 0 := hc 1267 (by decide)
  have c1270 : cnt 1270 = 0 := hc 1270 (by decide)
  have c1271 : cnt 1271 = 0 := hc 1271 (by decide)
  have c1272 : cnt 1272 = 0 := hc 1272 (by decide)
  have c1273 : cnt 1273 = 0 := hc 1273 (by decide)
  have c1274 : cnt 1274 = 0 := hc 1274 (by decide)
  have c1275 : cnt 1275 = 0 := hc 1275 (by decide)
  have c1276 : cnt 1276 = 0 := hc 1276 (by decide)
  have c1277 : cnt 1277 = 0 := hc 1277 (by decide)
  have c1278 : cnt 1278 = 0 := hc 1278 (by decide)
  have c1279 : cnt 1279 = 0 := hc 1279 (by decide)
  have c1280 : cnt 1280 = 0 := hc 1280 (by decide)
  have c1281 : cnt 1281 = 0 := hc 1281 (by decide)
  have c1286 : cnt 1286 = 0 := hc 1286 (by decide)
  have c1287 : cnt 1287 = 0 := hc 1287 (by decide)
  have c1288 : cnt 1288 = 0 := hc 1288 (by decide)
  have r1200 : ∀ k, mmRf 0 (fun _ => none) 1200 0 k = none := fun k => rfl
  have r1203 : ∀ k, mmRf 0 (fun _ => none) 1203 0 k = none := fun k => rfl
  have r1235 : ∀ k, mmRf 0 (fun _ => none) 1235 0 k = none := fun k => rfl
  have r1236 : ∀ k, mmRf 0 (fun _ => none) 1236 0 k = none := fun k => rfl
  have r1237 : ∀ k, mmRf 0 (fun _ => none) 1237 0 k = none := fun k => rfl
  have r1238 : ∀ k, mmRf 0 (fun _ => none) 1238 0 k = none := fun k => rfl
  have r1239 : ∀ k, mmRf 0 (fun _ => none) 1239 0 k = none := fun k => rfl
  have r1240 : ∀ k, mmRf 0 (fun _ => none) 1240 0 k = none := fun k => rfl
  have r1241 : ∀ k, mmRf 0 (fun _ => none) 1241 0 k = none := fun k => rfl
  have r1242 : ∀ k, mmRf 0 (fun _ => none) 1242 0 k = none := fun k => rfl
  have r1243 : ∀ k, mmRf 0 (fun _ => none) 1243 0 k = none := fun k => rfl
  have r1244 : ∀ k, mmRf 0 (fun _ => none) 1244 0 k = none := fun k => rfl
  have r1245 : ∀ k, mmRf 0 (fun _ => none) 1245 0 k = none := fun k => rfl
  have r1246 : ∀ k, mmRf 0 (fun _ => none) 1246 0 k = none := fun k => rfl
  have r1248 : ∀ k, mmRf 0 (fun _ => none) 1248 0 k = none := fun k => rfl
  have r1249 : ∀ k, mmRf 0 (fun _ => none) 1249 0 k = none := fun k => rfl
  have r1256 : ∀ k, mmRf 0 (fun _ => none) 1256 0 k = none := fun k => rfl
  have r1257 : ∀ k, mmRf 0 (fun _ => none) 1257 0 k = none := fun k => rfl
  have r1259 : ∀ k, mmRf 0 (fun _ => none) 1259 0 k = none := fun k => rfl
  have r1261 : ∀ k, mmRf 0 (fun _ => none) 1261 0 k = none := fun k => rfl
  have r1262 : ∀ k, mmRf 0 (fun _ => none) 1262 0 k = none := fun k => rfl
  have r1265 : ∀ k, mmRf 0 (fun _ => none) 1265 0 k = none := fun k => rfl
  have r1266 : ∀ k, mmRf 0 (fun _ => none) 1266 0 k = none := fun k => rfl
  have r1267 : ∀ k, mmRf 0 (fun _ => none) 1267 0 k = none := fun k => rfl
  have r1270 : ∀ k, mmRf 0 (fun _ => none) 1270 0 k = none := fun k => rfl
  have r1271 : ∀ k, mmRf 0 (fun _ => none) 1271 0 k = none := fun k => rfl
  have r1272 : ∀ k, mmRf 0 (fun _ => none) 1272 0 k = none := fun k => rfl
  have r1273 : ∀ k, mmRf 0 (fun _ => none) 1273 0 k = none := fun k => rfl
  have r1274 : ∀ k, mmRf 0 (fun _ => none) 1274 0 k = none := fun k => rfl
  have r1275 : ∀ k, mmRf 0 (fun _ => none) 1275 0 k = none := fun k => rfl
  have r1276 : ∀ k, mmRf 0 (fun _ => none) 1276 0 k = none := fun k => rfl
  have r1277 : ∀ k, mmRf 0 (fun _ => none) 1277 0 k = none := fun k => rfl
  have r1278 : ∀ k, mmRf 0 (fun _ => none) 1278 0 k = none := fun k => rfl
  have r1279 : ∀ k, mmRf 0 (fun _ => none) 1279 0 k = none := fun k => rfl
  have r1280 : ∀ k, mmRf 0 (fun _ => none) 1280 0 k = none := fun k => rfl
  have r1281 : ∀ k, mmRf 0 (fun _ => none) 1281 0 k = none := fun k => rfl
  have r1286 : ∀ k, mmRf 0 (fun _ => none) 1286 0 k = none := fun k => rfl
  have r1287 : ∀ k, mmRf 0 (fun _ => none) 1287 0 k = none := fun k => rfl
  have r1288 : ∀ k, mmRf 0 (fun _ => none) 1288 0 k = none := fun k => rfl
  refine mmC_in (by decide) (Nat.le_of_ble_eq_true rfl) (mmC_step ?_)
  simp only [show mmMl 142 = 1 from rfl, mmLs, List.replicate, cd_142, sg_142_0, mmK_cut cd_142, q_cons, q_G0, q_GS, q_I1, q_L1, q_A1, q_S0, q_S1, q_SS, q_T0, q_T1, q_TS, q_Kn, q_Ki, q_Kl, q_Kr, q_k0, q_kS, q_rc, q_ps, q_pn, q_aload0, q_objInit, q_sipush, q_newarray, q_putfieldA, q_bipush, q_dupI, q_dupA, q_iconst, q_iastore, q_putfieldI, q_return, mmKe_1200, mmKe_1203, mmKe_1235, mmKe_1236, mmKe_1237, mmKe_1238, mmKe_1239, mmKe_1240, mmKe_1241, mmKe_1242, mmKe_1243, mmKe_1244, mmKe_1245, mmKe_1246, mmKe_1248, mmKe_1249, mmKe_1256, mmKe_1257, mmKe_1259, mmKe_1261, mmKe_1262, mmKe_1265, mmKe_1266, mmKe_1267, mmKe_1270, mmKe_1271, mmKe_1272, mmKe_1273, mmKe_1274, mmKe_1275, mmKe_1276, mmKe_1277, mmKe_1278, mmKe_1279, mmKe_1280, mmKe_1281, mmKe_1286, mmKe_1287, mmKe_1288, mmKo_11, mmLen_1200, mmLen_1203, mmLen_1235, mmLen_1236, mmLen_1237, mmLen_1238, mmLen_1239, mmLen_1240, mmLen_1241, mmLen_1242, mmLen_1243, mmLen_1244, mmLen_1245, mmLen_1246, mmLen_1248, mmLen_1249, mmLen_1256, mmLen_1257, mmLen_1259, mmLen_1261, mmLen_1262, mmLen_1265, mmLen_1266, mmLen_1267, mmLen_1270, mmLen_1271, mmLen_1272, mmLen_1273, mmLen_1274, mmLen_1275, mmLen_1276, mmLen_1277, mmLen_1278, mmLen_1279, mmLen_1280, mmLen_1281, mmLen_1286, mmLen_1287, mmLen_1288, mmR32, mmR64, Option.some.injEq, Int.cast_ofNat_Int, and_true, true_and, if_true, if_false, List.length_cons, List.length_nil, Nat.le_refl, Nat.zero_le, Nat.sub_zero, forall_const, reduceCtorEq, Nat.reduceAdd, Nat.reduceSub, Nat.reduceLeDiff, Nat.reduceEqDiff, Int.reduceAdd, Int.reduceNeg, Int.reduceSub, Int.reduceLT, Int.reduceLE, Int.reduceMul, Int.reduceEq, List.drop_zero, List.drop_succ_cons, ne_eq, not_false_eq_true, not_true_eq_false, false_and, and_false, false_implies, true_implies, reduceIte, mmU_rd, implies_true, or_false, false_or, or_true, true_or, vu_rd, zr, rr, mmUr_rd, mmU_Ur, Int.reduceToNat, z1200, z1203, z1235, z1236, z1237, z1238, z1239, z1240, z1241, z1242, z1243, z1244, z1245, z1246, z1248, z1249, z1256, z1257, z1259, z1261, z1262, z1265, z1266, z1267, z1270, z1271, z1272, z1273, z1274, z1275, z1276, z1277, z1278, z1279, z1280, z1281, z1286, z1287, z1288, c1200, c1203, c1235, c1236, c1237, c1238, c1239, c1240, c1241, c1242, c1243, c1244, c1245, c1246, c1248, c1249, c1256, c1257, c1259, c1261, c1262, c1265, c1266, c1267, c1270, c1271, c1272, c1273, c1274, c1275, c1276, c1277, c1278, c1279, c1280, c1281, c1286, c1287, c1288, r1200, r1203, r1235, r1236, r1237, r1238, r1239, r1240, r1241, r1242, r1243, r1244, r1245, r1246, r1248, r1249, r1256, r1257, r1259, r1261, r1262, r1265, r1266, r1267, r1270, r1271, r1272, r1273, r1274, r1275, r1276, r1277, r1278, r1279, r1280, r1281, r1286, r1287, r1288]
  rw [show mmU (mmU (mmU (mmU (mmU (mmU (mmU (mmU (mmU (mmU (mmU (mmU (mmU (mmU (mmU (mmU (mmU (mmU (mmU (mmU (mmU (mmU (mmU (mmU (mmU (mmU (mmU (mmU (mmU (mmU (mmU (mmU (mmU (mmU (mmU (mmU (mmU (mmU (mmU (mmU (mmU (mmU (mmU (mmU (mmU (mmU (mmU (mmU (mmU (mmU (mmU (mmU (mmU (mmU (mmU (mmU (mmU (mmU (mmU (mmU (mmU (mmU (mmU (mmU (mmU (mmU (mmU (mmU (mmU (mmU (mmU (mmU (mmU (mmU (mmU (mmU (mmU (mmU (mmU (mmU (mmU (mmU (mmU (mmU (mmU (mmU (mmU (mmU (mmU (mmU (mmU (mmU (mmU (mmU (mmU J 1203 0 0 98) 1203 0 1 111) 1203 0 2 97) 1203 0 3 114) 1203 0 4 100) 1203 0 5 32) 1203 0 6 107) 1203 0 7 105) 1203 0 8 110) 1203 0 9 100) 1203 0 10 32) 1203 0 11 115) 1203 0 12 116) 1203 0 13 111) 1203 0 14 110) 1203 0 15 101) 1203 0 16 32) 1203 0 17 108) 1203 0 18 97) 1203 0 19 119) 1203 0 20 32) 1203 0 21 112) 1203 0 22 111) 1203 0 23 115) 1203 0 24 116) 1203 0 25 32) 1203 0 26 100) 1203 0 27 97) 1203 0 28 121) 1203 0 29 115) 1203 0 30 32) 1203 0 31 108) 1203 0 32 97) 1203 0 33 116) 1203 0 34 101) 1203 0 35 32) 1203 0 36 108) 1203 0 37 101) 1203 0 38 97) 1203 0 39 112) 1203 0 40 115) 1203 0 41 32) 1203 0 42 114) 1203 0 43 117) 1203 0 44 110) 1203 0 45 115) 1203 0 46 32) 1203 0 47 107) 1203 0 48 105) 1203 0 49 110) 1203 0 50 103) 1203 0 51 32) 1203 0 52 97) 1203 0 53 110) 1203 0 54 100) 1203 0 55 32) 1203 0 56 111) 1203 0 57 114) 1203 0 58 32) 1203 0 59 110) 1203 0 60 111) 1203 0 61 116) 1203 0 62 32) 1203 0 63 116) 1203 0 64 97) 1203 0 65 107) 1203 0 66 101) 1203 0 67 115) 1203 0 68 32) 1203 0 69 102) 1203 0 70 97) 1203 0 71 114) 1203 0 72 32) 1203 0 73 114) 1203 0 74 111) 1203 0 75 119) 1203 0 76 32) 1203 0 77 115) 1203 0 78 116) 1203 0 79 111) 1203 0 80 110) 1203 0 81 101) 1203 0 82 115) 1203 0 83 32) 1203 0 84 111) 1203 0 85 116) 1203 0 86 104) 1203 0 87 101) 1203 0 88 114) 1203 0 89 115) 1203 0 90 32) 1203 0 91 112) 1203 0 92 108) 1203 0 93 121) 1203 0 94 32 = wdM J 95 from rfl]
  rw [q_invV (pay := [])]
  simp only [q_k0, q_kS, q_rc, mmKo_11]
  refine ⟨Nat.le_of_ble_eq_true rfl, by trivial, Nat.zero_le _, Nat.zero_le _, ?_⟩
  rw [rw_e (fun k => ?_)]
  · refine m_plain ?_
    simp only [mmK_cut cd_142, q_cons, q_G0, q_GS, q_I1, q_L1, q_A1, q_S0, q_S1, q_SS, q_T0, q_T1, q_TS, q_Kn, q_Ki, q_Kl, q_Kr, q_k0, q_kS, q_rc, q_ps, q_pn, q_aload0, q_objInit, q_sipush, q_newarray, q_putfieldA, q_bipush, q_dupI, q_dupA, q_iconst, q_iastore, q_putfieldI, q_return, mmKe_1200, mmKe_1203, mmKe_1235, mmKe_1236, mmKe_1237, mmKe_1238, mmKe_1239, mmKe_1240, mmKe_1241, mmKe_1242, mmKe_1243, mmKe_1244, mmKe_1245, mmKe_1246, mmKe_1248, mmKe_1249, mmKe_1256, mmKe_1257, mmKe_1259, mmKe_1261, mmKe_1262, mmKe_1265, mmKe_1266, mmKe_1267, mmKe_1270, mmKe_1271, mmKe_1272, mmKe_1273, mmKe_1274, mmKe_1275, mmKe_1276, mmKe_1277, mmKe_1278, mmKe_1279, mmKe_1280, mmKe_1281, mmKe_1286, mmKe_1287, mmKe_1288, mmKo_11, mmLen_1200, mmLen_1203, mmLen_1235, mmLen_1236, mmLen_1237, mmLen_1238, mmLen_1239, mmLen_1240, mmLen_1241, mmLen_1242, mmLen_1243, mmLen_1244, mmLen_1245, mmLen_1246, mmLen_1248, mmLen_1249, mmLen_1256, mmLen_1257, mmLen_1259, mmLen_1261, mmLen_1262, mmLen_1265, mmLen_1266, mmLen_1267, mmLen_1270, mmLen_1271, mmLen_1272, mmLen_1273, mmLen_1274, mmLen_1275, mmLen_1276, mmLen_1277, mmLen_1278, mmLen_1279, mmLen_1280, mmLen_1281, mmLen_1286, mmLen_1287, mmLen_1288, mmR32, mmR64, Option.some.injEq, Int.cast_ofNat_Int, and_true, true_and, if_true, if_false, List.length_cons, List.length_nil, Nat.le_refl, Nat.zero_le, Nat.sub_zero, forall_const, reduceCtorEq, Nat.reduceAdd, Nat.reduceSub, Nat.reduceLeDiff, Nat.reduceEqDiff, Int.reduceAdd, Int.reduceNeg, Int.reduceSub, Int.reduceLT, Int.reduceLE, Int.reduceMul, Int.reduceEq, List.drop_zero, List.drop_succ_cons, ne_eq, not_false_eq_true, not_true_eq_false, false_and, and_false, false_implies, true_implies, reduceIte, mmU_rd, implies_true, or_false, false_or, or_true, true_or]
    rw [q_invV (pay := [])]
    simp only [q_k0, q_kS, q_rc, mmKo_11]
    refine ⟨Nat.le_of_ble_eq_true rfl, by trivial, Nat.zero_le _, Nat.zero_le _, ?_⟩
    have p34 : plM (mmU (wdM J 95) 11 0 5 (-1)) 11 0 34 = 0 := rfl
    have p31 : plM (mmU (wdM J 95) 11 0 5 (-1)) 11 0 31 = 0 := rfl
    have po : ∀ t k, ¬ t = 11 → ¬ t = 1203 → plM (mmU (wdM J 95) 11 0 5 (-1)) t 0 k = J t 0 k := fun t k h1 h2 => (plM_o (by omega)).trans ((uO (by omega)).trans (wdM_o _ (by omega)))
    have p6 : ∀ k, plM (mmU (wdM J 95) 11 0 5 (-1)) 1236 0 k = 0 := fun k => (po _ _ (by decide) (by decide)).trans (z1236 k)
    have p7 : ∀ k, plM (mmU (wdM J 95) 11 0 5 (-1)) 1237 0 k = 0 := fun k => (po _ _ (by decide) (by decide)).trans (z1237 k)
    have hM : ∀ r, RC r → M2 (plM (mmU (wdM J 95) 11 0 5 (-1))) r 0 := fun r hr => M2_plain hr ((plM_o (by omega)).trans ((uO (by omega)).trans ((wdM_o _ (by omega)).trans (z11 _)))) ((plM_o (by omega)).trans uS) ⟨rfl, rfl, rfl, rfl, rfl, rfl, rfl, rfl, rfl, rfl, rfl, rfl, rfl, rfl⟩
    have pa : ∀ t i k, ¬ t = 11 → ¬ t = 1203 → plM (mmU (wdM J 95) 11 0 5 (-1)) t i k = J t i k := fun t i k h1 h2 => (plM_o (by omega)).trans ((uO (by omega)).trans (wdM_o _ (by omega)))
    have pw : ∀ k : Nat, k < 95 → plM (mmU (wdM J 95) 11 0 5 (-1)) 1203 0 k = wdL.getD k 0 := fun k hk => (plM_o (by omega)).trans ((uO (by omega)).trans (wdM_i 95 k hk))
    have p1 : plM (mmU (wdM J 95) 11 0 5 (-1)) 11 0 1 = 0 := (plM_o (by omega)).trans ((uO (by omega)).trans ((wdM_o _ (by omega)).trans (z11 _)))
    have p4 : plM (mmU (wdM J 95) 11 0 5 (-1)) 11 0 4 = 0 := (plM_o (by omega)).trans ((uO (by omega)).trans ((wdM_o _ (by omega)).trans (z11 _)))
    have p5 : plM (mmU (wdM J 95) 11 0 5 (-1)) 11 0 5 = -1 := (plM_o (by omega)).trans uS
    refine mT_use (m_keepText (Or.inl p34) (Or.inl p31) (fun k _ _ => ⟨Or.inl (p6 k), Or.inl (p7 k)⟩)) (fun u J2 q => ?_)
    obtain ⟨rfl, hk⟩ := q
    simp only [mmK_cut cd_142, q_cons, q_G0, q_GS, q_I1, q_L1, q_A1, q_S0, q_S1, q_SS, q_T0, q_T1, q_TS, q_Kn, q_Ki, q_Kl, q_Kr, q_k0, q_kS, q_rc, q_ps, q_pn, q_aload0, q_objInit, q_sipush, q_newarray, q_putfieldA, q_bipush, q_dupI, q_dupA, q_iconst, q_iastore, q_putfieldI, q_return, mmKe_1200, mmKe_1203, mmKe_1235, mmKe_1236, mmKe_1237, mmKe_1238, mmKe_1239, mmKe_1240, mmKe_1241, mmKe_1242, mmKe_1243, mmKe_1244, mmKe_1245, mmKe_1246, mmKe_1248, mmKe_1249, mmKe_1256, mmKe_1257, mmKe_1259, mmKe_1261, mmKe_1262, mmKe_1265, mmKe_1266, mmKe_1267, mmKe_1270, mmKe_1271, mmKe_1272, mmKe_1273, mmKe_1274, mmKe_1275, mmKe_1276, mmKe_1277, mmKe_1278, mmKe_1279, mmKe_1280, mmKe_1281, mmKe_1286, mmKe_1287, mmKe_1288, mmKo_11, mmLen_1200, mmLen_1203, mmLen_1235, mmLen_1236, mmLen_1237, mmLen_1238, mmLen_1239, mmLen_1240, mmLen_1241, mmLen_1242, mmLen_1243, mmLen_1244, mmLen_1245, mmLen_1246, mmLen_1248, mmLen_1249, mmLen_1256, mmLen_1257, mmLen_1259, mmLen_1261, mmLen_1262, mmLen_1265, mmLen_1266, mmLen_1267, mmLen_1270, mmLen_1271, mmLen_1272, mmLen_1273, mmLen_1274, mmLen_1275, mmLen_1276, mmLen_1277, mmLen_1278, mmLen_1279, mmLen_1280, mmLen_1281, mmLen_1286, mmLen_1287, mmLen_1288, mmR32, mmR64, Option.some.injEq, Int.cast_ofNat_Int, and_true, true_and, if_true, if_false, List.length_cons, List.length_nil, Nat.le_refl, Nat.zero_le, Nat.sub_zero, forall_const, reduceCtorEq, Nat.reduceAdd, Nat.reduceSub, Nat.reduceLeDiff, Nat.reduceEqDiff, Int.reduceAdd, Int.reduceNeg, Int.reduceSub, Int.reduceLT, Int.reduceLE, Int.reduceMul, Int.reduceEq, List.drop_zero, List.drop_succ_cons, ne_eq, not_false_eq_true, not_true_eq_false, false_and, and_false, false_implies, true_implies, reduceIte, mmU_rd, implies_true, or_false, false_or, or_true, true_or]
    have hR : ∀ r, RC r → RK r J2 := fun r hr => RK_kept (hM r hr) hk
    obtain ⟨k0, _, ⟨k60, k68, k69, k82⟩, k1, _, _, _, k6⟩ := hk
    refine hQ J2 _ _ _ ⟨fun t i k h1 h2 => (k0 t i k (by omega) (by omega)).trans (pa t i k h1 (by omega)), fun k hk => (k0 _ _ _ (by omega) (by omega)).trans (pw k hk), ⟨(k0 _ _ _ (by omega) (by omega)).trans p1, (k0 _ _ _ (by omega) (by omega)).trans p4, (k0 _ _ _ (by omega) (by omega)).trans p5, k60, k68, k69, k82⟩, fun k hk => ⟨Or.inl ((k6 k hk).1.trans (p6 k)), Or.inl ((k6 k hk).2.trans (p7 k))⟩, hR⟩ ?_
    simp only [vu_rd, Nat.reduceEqDiff, if_false, reduceIte]
    exact hc 1300 (by decide)
  · by_cases q : k = 0 ∨ k = 3 ∨ k = 35 ∨ k = 36 ∨ k = 37 ∨ k = 38 ∨ k = 39 ∨ k = 40 ∨ k = 41 ∨ k = 42 ∨ k = 43 ∨ k = 44 ∨ k = 45 ∨ k = 46 ∨ k = 48 ∨ k = 49 ∨ k = 56 ∨ k = 57 ∨ k = 59 ∨ k = 61 ∨ k = 62 ∨ k = 65 ∨ k = 66 ∨ k = 67 ∨ k = 70 ∨ k = 71 ∨ k = 72 ∨ k = 73 ∨ k = 74 ∨ k = 75 ∨ k = 76 ∨ k = 77 ∨ k = 78 ∨ k = 79 ∨ k = 80 ∨ k = 81 ∨ k = 86 ∨ k = 87 ∨ k = 88
    · rcases q with q | q | q | q | q | q | q | q | q | q | q | q | q | q | q | q | q | q | q | q | q | q | q | q | q | q | q | q | q | q | q | q | q | q | q | q | q | q | q <;> subst q <;> rfl
    · simp only [not_or] at q
      obtain ⟨q0, q3, q35, q36, q37, q38, q39, q40, q41, q42, q43, q44, q45, q46, q48, q49, q56, q57, q59, q61, q62, q65, q66, q67, q70, q71, q72, q73, q74, q75, q76, q77, q78, q79, q80, q81, q86, q87, q88⟩ := q
      unfold mmRf
      simp [q0, q3, q35, q36, q37, q38, q39, q40, q41, q42, q43, q44, q45, q46, q48, q49, q56, q57, q59, q61, q62, q65, q66, q67, q70, q71, q72, q73, q74, q75, q76, q77, q78, q79, q80, q81, q86, q87, q88]
end S891
