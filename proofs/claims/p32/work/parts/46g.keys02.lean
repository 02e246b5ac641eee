/-! ===== the words of each class, on ===== -/
def zk_24_0 : List (Nat × Instr × Nat × Nat) := [(0, .invokespecial 1, 0, 6)]
theorem zkw_24_0 : ∀ w ∈ zk_24_0.flatMap (zNds 299), zWd w := zPls_ok2 [1470] (by decide +kernel) (by decide +kernel)
def zk_24 : List (List (Nat × Instr × Nat × Nat)) := [zk_24_0]
theorem zkw_24 : ∀ c ∈ zk_24, ∀ w ∈ c.flatMap (zNds 299), zWd w := (zall2 zkw_24_0 (fun c h => nomatch h))
def zk_25_0 : List (Nat × Instr × Nat × Nat) := [(0, .getfield 48, 2, 2), (0, .invokevirtual 69, 302, 30), (0, .getfield 9, 2, 1), (0, .invokestatic 118, 316, 0), (0, .invokevirtual 123, 305, 30), (0, .invokevirtual 129, 303, 30), (0, .putfield 48, 2, 2), (0, .invokespecial 1, 300, 30), (0, .putfield 9, 2, 1), (0, .invokestatic 73, 317, 0), (0, .invokestatic 66, 310, 0), (0, .invokestatic 79, 261, 0), (0, .anewarray 7, 105, 0), (0, .invokevirtual 131, 308, 30)]
theorem zkw_25_0 : ∀ w ∈ zk_25_0.flatMap (zNds 303), zWd w := zPls_ok2 [1474, 1645, 87, 1644, 39, 1642, 1473, 1703, 102, 1702, 1701, 1708, 87, 1706, 1707, 1705, 1641, 87, 1640, 38, 1638, 1474, 1466, 86, 1465, 1464, 1473, 1214, 98, 1213, 1646, 1649, 100, 1648, 1647, 681, 99, 680, 1682, 1683, 1680, 1637, 87, 1636, 37, 1634] (by decide +kernel) (by decide +kernel)
def zk_25 : List (List (Nat × Instr × Nat × Nat)) := [zk_25_0]
theorem zkw_25 : ∀ c ∈ zk_25, ∀ w ∈ c.flatMap (zNds 303), zWd w := (zall2 zkw_25_0 (fun c h => nomatch h))
def zk_26_0 : List (Nat × Instr × Nat × Nat) := [(0, .invokestatic 105, 319, 0)]
theorem zkw_26_0 : ∀ w ∈ zk_26_0.flatMap (zNds 316), zWd w := zPls_ok2 [1287, 103, 1286, 1704] (by decide +kernel) (by decide +kernel)
def zk_26 : List (List (Nat × Instr × Nat × Nat)) := [zk_26_0]
theorem zkw_26 : ∀ c ∈ zk_26, ∀ w ∈ c.flatMap (zNds 316), zWd w := (zall2 zkw_26_0 (fun c h => nomatch h))
def zk_27_0 : List (Nat × Instr × Nat × Nat) := [(0, .invokestatic 194, 261, 0), (0, .ldc 200, 2147483639, 0), (0, .invokestatic 201, 318, 0)]
theorem zkw_27_0 : ∀ w ∈ zk_27_0.flatMap (zNds 317), zWd w := zPls_ok2 [681, 99, 680, 1215, 1216, 1219, 98, 1218, 1217] (by decide +kernel) (by decide +kernel)
def zk_27 : List (List (Nat × Instr × Nat × Nat)) := [zk_27_0]
theorem zkw_27 : ∀ c ∈ zk_27, ∀ w ∈ c.flatMap (zNds 317), zWd w := (zall2 zkw_27_0 (fun c h => nomatch h))
def zk_28_0 : List (Nat × Instr × Nat × Nat) := [(0, .invokespecial 1, 299, 30), (0, .putfield 7, 2, 0)]
theorem zkw_28_0 : ∀ w ∈ zk_28_0.flatMap (zNds 300), zWd w := zPls_ok2 [1469, 85, 1468, 1467, 1475] (by decide +kernel) (by decide +kernel)
def zk_28 : List (List (Nat × Instr × Nat × Nat)) := [zk_28_0]
theorem zkw_28 : ∀ c ∈ zk_28, ∀ w ∈ c.flatMap (zNds 300), zWd w := (zall2 zkw_28_0 (fun c h => nomatch h))
def zk_29_0 : List (Nat × Instr × Nat × Nat) := [(0, .invokestatic 300, 311, 0), (0, .anewarray 2, 105, 0), (0, .invokestatic 304, 262, 0), (0, .newarray .byte, 101, 0), (0, .new 45, 1, 0), (0, .invokespecial 47, 273, 20), (0, .invokevirtual 54, 276, 20), (0, .invokevirtual 50, 274, 20), (0, .invokevirtual 61, 277, 20), (0, .invokestatic 339, 315, 0), (0, .invokestatic 343, 313, 0)]
theorem zkw_29_0 : ∀ w ∈ zk_29_0.flatMap (zNds 310), zWd w := zPls_ok2 [1678, 100, 1677, 1676, 1681, 1680, 678, 99, 677, 1231, 621, 1362, 1163, 107, 1166, 107, 1165, 1363, 1291, 107, 1289, 1290, 1364, 1369, 107, 1367, 1368, 1366, 1328, 107, 1326, 1327, 1404, 1357, 100, 1356, 1355, 1360, 100, 1359, 1358] (by decide +kernel) (by decide +kernel)
def zk_29 : List (List (Nat × Instr × Nat × Nat)) := [zk_29_0]
theorem zkw_29 : ∀ c ∈ zk_29, ∀ w ∈ c.flatMap (zNds 310), zWd w := (zall2 zkw_29_0 (fun c h => nomatch h))
def zk_30 : List (List (Nat × Instr × Nat × Nat)) := []
theorem zkw_30 : ∀ c ∈ zk_30, ∀ w ∈ c.flatMap (zNds 319), zWd w := (fun c h => nomatch h)
