def am_lys : List (List Nat) := [[388, 390, 392], [363, 365, 367, 369, 371], [338, 340, 342, 344], [304, 306, 308, 310], [316, 318], [404, 406, 408], [242, 244, 246, 248, 250, 252, 254, 256, 258], [270, 272, 274, 276, 278, 280, 282, 284], [423, 425, 427, 429, 431], [202, 204, 206, 208, 210, 212, 214], [145, 147, 149], [453, 455, 457, 459, 461, 463, 465, 467, 469, 471, 473, 475, 477, 479, 481, 483, 485, 487], [1367, 1369, 1371, 1373, 1375, 1377, 1379, 1381, 1383, 1385, 1387, 1389, 1391, 1393, 1395, 1397, 1399, 1401, 1403, 1405, 1407, 1409, 1411, 1413, 1415, 1417, 1419, 1421, 1423, 1425, 1427, 1429, 1431, 1433, 1435, 1437, 1439, 1441, 1443, 1445, 1447, 1449, 1451, 1453, 1455, 1457, 1459, 1461, 1463, 1465, 1467, 1469, 1471]]
theorem am_uin_0 : ∀ w ∈ u_ws (am_RX 0) (am_TX 0) 3, w ∈ am_ws := fun w h => am_zip_in (f := id) (l := u_ws (am_RX 0) (am_TX 0) 3) (ps := am_lys.getD 0 []) (by decide +kernel) (by decide +kernel) w h
theorem am_uin_1 : ∀ w ∈ u_ws (am_RX 1) (am_TX 1) 5, w ∈ am_ws := fun w h => am_zip_in (f := id) (l := u_ws (am_RX 1) (am_TX 1) 5) (ps := am_lys.getD 1 []) (by decide +kernel) (by decide +kernel) w h
theorem am_uin_2 : ∀ w ∈ u_ws (am_RX 2) (am_TX 2) 4, w ∈ am_ws := fun w h => am_zip_in (f := id) (l := u_ws (am_RX 2) (am_TX 2) 4) (ps := am_lys.getD 2 []) (by decide +kernel) (by decide +kernel) w h
theorem am_uin_3 : ∀ w ∈ u_ws (am_RX 3) (am_TX 3) 4, w ∈ am_ws := fun w h => am_zip_in (f := id) (l := u_ws (am_RX 3) (am_TX 3) 4) (ps := am_lys.getD 3 []) (by decide +kernel) (by decide +kernel) w h
theorem am_uin_4 : ∀ w ∈ u_ws (am_RX 4) (am_TX 4) 2, w ∈ am_ws := fun w h => am_zip_in (f := id) (l := u_ws (am_RX 4) (am_TX 4) 2) (ps := am_lys.getD 4 []) (by decide +kernel) (by decide +kernel) w h
theorem am_uin_5 : ∀ w ∈ u_ws (am_RX 5) (am_TX 5) 3, w ∈ am_ws := fun w h => am_zip_in (f := id) (l := u_ws (am_RX 5) (am_TX 5) 3) (ps := am_lys.getD 5 []) (by decide +kernel) (by decide +kernel) w h
theorem am_uin_6 : ∀ w ∈ u_ws (am_RX 6) (am_TX 6) 9, w ∈ am_ws := fun w h => am_zip_in (f := id) (l := u_ws (am_RX 6) (am_TX 6) 9) (ps := am_lys.getD 6 []) (by decide +kernel) (by decide +kernel) w h
theorem am_uin_7 : ∀ w ∈ u_ws (am_RX 7) (am_TX 7) 8, w ∈ am_ws := fun w h => am_zip_in (f := id) (l := u_ws (am_RX 7) (am_TX 7) 8) (ps := am_lys.getD 7 []) (by decide +kernel) (by decide +kernel) w h
theorem am_uin_8 : ∀ w ∈ u_ws (am_RX 8) (am_TX 8) 5, w ∈ am_ws := fun w h => am_zip_in (f := id) (l := u_ws (am_RX 8) (am_TX 8) 5) (ps := am_lys.getD 8 []) (by decide +kernel) (by decide +kernel) w h
theorem am_uin_9 : ∀ w ∈ u_ws (am_RX 9) (am_TX 9) 7, w ∈ am_ws := fun w h => am_zip_in (f := id) (l := u_ws (am_RX 9) (am_TX 9) 7) (ps := am_lys.getD 9 []) (by decide +kernel) (by decide +kernel) w h
theorem am_uin_10 : ∀ w ∈ u_ws (am_RX 10) (am_TX 10) 3, w ∈ am_ws := fun w h => am_zip_in (f := id) (l := u_ws (am_RX 10) (am_TX 10) 3) (ps := am_lys.getD 10 []) (by decide +kernel) (by decide +kernel) w h
theorem am_uin_11 : ∀ w ∈ u_ws (am_RX 11) (am_TX 11) 18, w ∈ am_ws := fun w h => am_zip_in (f := id) (l := u_ws (am_RX 11) (am_TX 11) 18) (ps := am_lys.getD 11 []) (by decide +kernel) (by decide +kernel) w h
theorem am_uin_12 : ∀ w ∈ u_ws (am_RX 12) (am_TX 12) 53, w ∈ am_ws := fun w h => am_zip_in (f := id) (l := u_ws (am_RX 12) (am_TX 12) 53) (ps := am_lys.getD 12 []) (by decide +kernel) (by decide +kernel) w h
theorem am_uin : ∀ c, c < 13 → ∀ w ∈ u_ws (am_RX c) (am_TX c) (am_nf.getD c 0), w ∈ am_ws := by
  intro c hc
  match c, hc with
  | 0, _ => exact am_uin_0
  | 1, _ => exact am_uin_1
  | 2, _ => exact am_uin_2
  | 3, _ => exact am_uin_3
  | 4, _ => exact am_uin_4
  | 5, _ => exact am_uin_5
  | 6, _ => exact am_uin_6
  | 7, _ => exact am_uin_7
  | 8, _ => exact am_uin_8
  | 9, _ => exact am_uin_9
  | 10, _ => exact am_uin_10
  | 11, _ => exact am_uin_11
  | 12, _ => exact am_uin_12
theorem am_cl_at : ∀ c, c < 13 → vwCl[c]? = some (am_RX c, am_TX c, am_nf.getD c 0) := by
  intro c hc
  match c, hc with
  | 0, _ => rfl
  | 1, _ => rfl
  | 2, _ => rfl
  | 3, _ => rfl
  | 4, _ => rfl
  | 5, _ => rfl
  | 6, _ => rfl
  | 7, _ => rfl
  | 8, _ => rfl
  | 9, _ => rfl
  | 10, _ => rfl
  | 11, _ => rfl
  | 12, _ => rfl
theorem am_TX_own : ∀ c, c < 13 → ∀ j, j < am_nf.getD c 0 → (am_TX c j).1 = am_RX c := by decide +kernel
theorem am_nm : ∀ c, c < 13 → ∀ a, a < am_nf.getD c 0 → ∀ b, b < am_nf.getD c 0 → a ≠ b → (am_TX c a).2.1 ≠ (am_TX c b).2.1 := by
  intro c hc
  match c, hc with
  | 0, _ => exact nmX0
  | 1, _ => exact nmX1
  | 2, _ => exact nmX2
  | 3, _ => exact nmX3
  | 4, _ => exact nmX4
  | 5, _ => exact nmX5
  | 6, _ => exact nmX6
  | 7, _ => exact nmX7
  | 8, _ => exact nmX8
  | 9, _ => exact nmX9
  | 10, _ => exact nmX10
  | 11, _ => exact nmX11
  | 12, _ => exact nmX12
theorem am_ty_ok : ∀ c, c < 13 → ∀ k, k < am_nf.getD c 0 → parseFieldDescriptor (am_TX c k).2.2.1 = some (am_TY c k) := by
  intro c hc
  match c, hc with
  | 0, _ => exact tyX0_ok
  | 1, _ => exact tyX1_ok
  | 2, _ => exact tyX2_ok
  | 3, _ => exact tyX3_ok
  | 4, _ => exact tyX4_ok
  | 5, _ => exact tyX5_ok
  | 6, _ => exact tyX6_ok
  | 7, _ => exact tyX7_ok
  | 8, _ => exact tyX8_ok
  | 9, _ => exact tyX9_ok
  | 10, _ => exact tyX10_ok
  | 11, _ => exact tyX11_ok
  | 12, _ => exact tyX12_ok
def am_isRT : FieldType → Bool
  | .object _ => true
  | .array _ => true
  | _ => false
theorem am_ft_ok : ∀ c, c < 13 → ∀ j, j < am_nf.getD c 0 → (am_ft c j = 0 ∧ am_TY c j = .int) ∨ (am_ft c j = 1 ∧ am_isRT (am_TY c j) = true) ∨ (am_ft c j = 2 ∧ am_TY c j = .long) ∨ (am_ft c j = 3 ∧ am_TY c j = .boolean) := by decide +kernel
def am_iw : List Cond := [.static Lib.Math.max.name, .code Lib.Math.max.name Lib.Math.max.code 2 (some .int), .static Lib.Math.min.name, .code Lib.Math.min.name Lib.Math.min.code 2 (some .int), .static Lib.Math.abs.name, .code Lib.Math.abs.name Lib.Math.abs.code 1 (some .int), .static Lib.MathLoose.max_long.x, .code Lib.MathLoose.max_long.x Lib.MathLoose.max_long.code 4 (some .long), .static Lib.MathLoose.min_long.x, .code Lib.MathLoose.min_long.x Lib.MathLoose.min_long.code 4 (some .long), .initialized "java/lang/Math", .initialized "java/lang/System", .static arraycopyName, .native arraycopyName, .instanceMethod Lib.objectInit, .code Lib.objectInit ⟨#[0xb1]⟩ 1 none, .arrayClass .int, .arrayClass .boolean, .arrayClass .long, .initialized "ColdMiddleLaw", .instantiable (am_RX 0) 3, .initialized (am_RX 0), .instantiable (am_RX 1) 5, .initialized (am_RX 1), .instantiable (am_RX 2) 4, .initialized (am_RX 2), .instantiable (am_RX 3) 4, .initialized (am_RX 3), .instantiable (am_RX 4) 2, .initialized (am_RX 4), .instantiable (am_RX 5) 3, .initialized (am_RX 5), .instantiable (am_RX 6) 9, .initialized (am_RX 6), .instantiable (am_RX 7) 8, .initialized (am_RX 7), .instantiable (am_RX 8) 5, .initialized (am_RX 8), .instantiable (am_RX 9) 7, .initialized (am_RX 9), .instantiable (am_RX 10) 3, .initialized (am_RX 10), .instantiable (am_RX 11) 18, .initialized (am_RX 11), .instantiable (am_RX 12) 53, .initialized (am_RX 12)]
theorem am_iw_in : ∀ w ∈ am_iw, w ∈ am_ws := fun w h => am_zip_in (f := id) (l := am_iw) (ps := [569, 570, 572, 573, 1125, 1126, 883, 884, 880, 881, 115, 119, 764, 765, 131, 132, 152, 287, 1972, 99, 377, 109, 348, 108, 324, 107, 295, 106, 289, 105, 396, 110, 160, 103, 154, 102, 412, 111, 166, 104, 134, 101, 126, 100, 1309, 112]) (by decide +kernel) (by decide +kernel) w h
theorem am_iw_at (i : Nat) {w : Cond} (h : am_iw[i]? = some w := by rfl) : w ∈ am_ws := am_iw_in w (List.mem_of_getElem? h)
theorem am_obj_ws : ∀ c, c < 13 → Cond.instantiable (am_RX c) (am_nf.getD c 0) ∈ am_ws ∧ Cond.initialized (am_RX c) ∈ am_ws := by
  intro c hc
  match c, hc with
  | 0, _ => exact ⟨am_iw_at 20, am_iw_at 21⟩
  | 1, _ => exact ⟨am_iw_at 22, am_iw_at 23⟩
  | 2, _ => exact ⟨am_iw_at 24, am_iw_at 25⟩
  | 3, _ => exact ⟨am_iw_at 26, am_iw_at 27⟩
  | 4, _ => exact ⟨am_iw_at 28, am_iw_at 29⟩
  | 5, _ => exact ⟨am_iw_at 30, am_iw_at 31⟩
  | 6, _ => exact ⟨am_iw_at 32, am_iw_at 33⟩
  | 7, _ => exact ⟨am_iw_at 34, am_iw_at 35⟩
  | 8, _ => exact ⟨am_iw_at 36, am_iw_at 37⟩
  | 9, _ => exact ⟨am_iw_at 38, am_iw_at 39⟩
  | 10, _ => exact ⟨am_iw_at 40, am_iw_at 41⟩
  | 11, _ => exact ⟨am_iw_at 42, am_iw_at 43⟩
  | 12, _ => exact ⟨am_iw_at 44, am_iw_at 45⟩
theorem am_cl2_lt : ∀ q ∈ am_cl2, q.2.2 < 13 := by decide +kernel
