/-! the words that every method here takes: those of the tables that keep -/
def aU : List Cond := lw_tbl.filter goodWord
theorem aU_tbl : ∀ w ∈ aU, w ∈ lw_tbl := fun _ h => (List.mem_filter.mp h).1
theorem aU_good : ∀ w ∈ aU, goodWord w = true := fun _ h => (List.mem_filter.mp h).2
theorem aU_of {w : Cond} (h : w ∈ tables_1) (g : goodWord w = true) : w ∈ aU := List.mem_filter.mpr ⟨List.mem_append_right _ h, g⟩
theorem aU_p {q : MethodName × Nat} (h : q ∈ lw_privs) : Cond.selects q.1.cls q.1 q.1 ∈ aU := List.mem_filter.mpr ⟨List.mem_append_left _ (List.mem_map.mpr ⟨q, h, rfl⟩), rfl⟩
theorem aU_in {ws : List Cond} (h : GoodIn aU ws) : ∀ w ∈ ws, w ∈ aU := fun w hw => (h w hw).1
theorem aU_r (ws : List Cond) (ps : List Nat) (hp : ws = ps.filterMap (fun i => tables_1[i]?)) (h : ws.all goodWord = true) : ∀ w ∈ ws, w ∈ aU := fun w hw => aU_of ((goodIn_r ws ps hp h) w hw).1 (List.all_eq_true.mp h w hw)
theorem aU_1 (i : Nat) {w : Cond} (h : tables_1_1[i]? = some w) (g : goodWord w = true) : w ∈ aU := aU_of (List.mem_append_left _ (List.mem_of_getElem? h)) g
theorem aU_2 (i : Nat) {w : Cond} (h : tables_1_2[i]? = some w) (g : goodWord w = true) : w ∈ aU := aU_of (List.mem_append_right _ (List.mem_append_left _ (List.mem_of_getElem? h))) g
theorem aU_3 (i : Nat) {w : Cond} (h : tables_1_3[i]? = some w) (g : goodWord w = true) : w ∈ aU := aU_of (List.mem_append_right _ (List.mem_append_right _ (List.mem_append_left _ (List.mem_of_getElem? h)))) g
theorem aU_4 (i : Nat) {w : Cond} (h : tables_1_4[i]? = some w) (g : goodWord w = true) : w ∈ aU := aU_of (List.mem_append_right _ (List.mem_append_right _ (List.mem_append_right _ (List.mem_append_left _ (List.mem_of_getElem? h))))) g
theorem aU_5 (i : Nat) {w : Cond} (h : tables_1_5[i]? = some w) (g : goodWord w = true) : w ∈ aU := aU_of (List.mem_append_right _ (List.mem_append_right _ (List.mem_append_right _ (List.mem_append_right _ (List.mem_append_left _ (List.mem_of_getElem? h)))))) g
theorem aU_6 (i : Nat) {w : Cond} (h : tables_1_6[i]? = some w) (g : goodWord w = true) : w ∈ aU := aU_of (List.mem_append_right _ (List.mem_append_right _ (List.mem_append_right _ (List.mem_append_right _ (List.mem_append_right _ (List.mem_append_left _ (List.mem_of_getElem? h))))))) g
theorem aU_7 (i : Nat) {w : Cond} (h : tables_1_7[i]? = some w) (g : goodWord w = true) : w ∈ aU := aU_of (List.mem_append_right _ (List.mem_append_right _ (List.mem_append_right _ (List.mem_append_right _ (List.mem_append_right _ (List.mem_append_right _ (List.mem_append_left _ (List.mem_of_getElem? h)))))))) g
theorem aU_8 (i : Nat) {w : Cond} (h : tables_1_8[i]? = some w) (g : goodWord w = true) : w ∈ aU := aU_of (List.mem_append_right _ (List.mem_append_right _ (List.mem_append_right _ (List.mem_append_right _ (List.mem_append_right _ (List.mem_append_right _ (List.mem_append_right _ (List.mem_of_getElem? h)))))))) g
theorem aU_X0 : ∀ w ∈ u_ws RX0 TX0 4, w ∈ aU := aU_r _ [348, 350, 352, 354] (by decide +kernel) (by decide +kernel)
theorem aU_X1 : ∀ w ∈ u_ws RX1 TX1 11, w ∈ aU := aU_r _ [376, 378, 380, 382, 384, 386, 388, 390, 392, 394, 396] (by decide +kernel) (by decide +kernel)
theorem aU_X2 : ∀ w ∈ u_ws RX2 TX2 7, w ∈ aU := aU_r _ [452, 454, 456, 458, 460, 462, 464] (by decide +kernel) (by decide +kernel)
theorem aU_X3 : ∀ w ∈ u_ws RX3 TX3 10, w ∈ aU := aU_r _ [417, 419, 421, 423, 425, 427, 429, 431, 433, 435] (by decide +kernel) (by decide +kernel)
theorem aU_X4 : ∀ w ∈ u_ws RX4 TX4 5, w ∈ aU := aU_r _ [58, 60, 62, 64, 66] (by decide +kernel) (by decide +kernel)
theorem aU_X5 : ∀ w ∈ u_ws RX5 TX5 7, w ∈ aU := aU_r _ [487, 489, 491, 493, 495, 497, 499] (by decide +kernel) (by decide +kernel)
theorem aU_X6 : ∀ w ∈ u_ws RX6 TX6 17, w ∈ aU := aU_r _ [205, 207, 209, 211, 213, 215, 217, 219, 221, 223, 225, 227, 229, 231, 233, 235, 237] (by decide +kernel) (by decide +kernel)
theorem aU_X7 : ∀ w ∈ u_ws RX7 TX7 9, w ∈ aU := aU_r _ [317, 319, 321, 323, 325, 327, 329, 331, 333] (by decide +kernel) (by decide +kernel)
theorem aU_X8 : ∀ w ∈ u_ws RX8 TX8 7, w ∈ aU := aU_r _ [96, 98, 100, 102, 104, 106, 108] (by decide +kernel) (by decide +kernel)
theorem aU_X9 : ∀ w ∈ u_ws RX9 TX9 10, w ∈ aU := aU_r _ [280, 282, 284, 286, 288, 290, 292, 294, 296, 298] (by decide +kernel) (by decide +kernel)
theorem aU_X10 : ∀ w ∈ u_ws RX10 TX10 8, w ∈ aU := aU_r _ [513, 515, 517, 519, 521, 523, 525, 527] (by decide +kernel) (by decide +kernel)
theorem aU_X11 : ∀ w ∈ u_ws RX11 TX11 14, w ∈ aU := aU_r _ [544, 546, 548, 550, 552, 554, 556, 558, 560, 562, 564, 566, 568, 570] (by decide +kernel) (by decide +kernel)
theorem aU_X12 : ∀ w ∈ u_ws RX12 TX12 66, w ∈ aU := aU_r _ [1403, 1405, 1407, 1409, 1411, 1413, 1415, 1417, 1419, 1421, 1423, 1425, 1427, 1429, 1431, 1433, 1435, 1437, 1439, 1441, 1443, 1445, 1447, 1449, 1451, 1453, 1455, 1457, 1459, 1461, 1463, 1465, 1467, 1469, 1471, 1473, 1475, 1477, 1479, 1481, 1483, 1485, 1487, 1489, 1491, 1493, 1495, 1497, 1499, 1501, 1503, 1505, 1507, 1509, 1511, 1513, 1515, 1517, 1519, 1521, 1523, 1525, 1527, 1529, 1531, 1533] (by decide +kernel) (by decide +kernel)
