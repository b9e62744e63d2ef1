/-! ===== the class's image: its answer ===== -/
/-- SpanCopier.image(I)Z0 -/
def enim0 : cCn := ((1, 1, ([(0, -2147483648, -1)], [], [(0, 11, 11, false, (0, []))], []), [(1, 0, (0, [])), (0, 0, (0, [(0, 1)]))]), (2, 1, ([(1, 0, 0)], [], [], []), [(0, 0, (0, [(1, 1)]))]), [])
theorem ewim0 : cwCn enim0 = true := by decide +kernel
theorem eoim0 : cOk cT0 ey166 3 4 0 0 enim0 := c_ok (d := 3) (Γ := eg166) (Ga := [[(22, 1824, enc137)], [(0, 0, enc138)]]) (cr := []) (code := ek166) (ps := []) (fuel := 700) emp166.1.2.2.2.2.2.1 ec166 (cCal_cons (cAl_cons (eoc137.mono (by decide)) ewc137 (cAl_nil)) (cCal_cons (cAl_cons (eoc138.mono (by decide)) ewc138 (cAl_nil)) (cCal_nil))) (by decide +kernel)
/-- SpanCopier.image(I)Z1 -/
def enim1 : cCn := ((1, 1, ([(0, 0, 1)], [], [(0, 11, 11, false, (0, []))], []), [(1, 0, (0, [])), (0, 0, (0, [(0, 1)]))]), (2, 1, ([(1, 1, 1)], [], [], []), [(0, 0, (0, [(1, 1)]))]), [(2, 0, 3), (3, 0, 5), (4, 0, 1), (5, 0, 5), (7, 0, 4), (8, 0, 8), (10, 0, 9), (21, 0, 520), (22, 0, 240), (25, 0, 5), (26, 0, 1), (1002, 0, 0), (1003, 0, 0), (1004, 0, 0), (1005, 0, 0), (1007, 0, 0), (1008, 0, 0), (1010, 0, 0), (1025, 0, 0)])
theorem ewim1 : cwCn enim1 = true := by decide +kernel
theorem eoim1 : cOk cT0 ey166 3 4 23 1835 enim1 := c_ok (d := 3) (Γ := eg166) (Ga := [[(22, 1824, enc137)], [(0, 0, enc138)]]) (cr := []) (code := ek166) (ps := []) (fuel := 700) emp166.1.2.2.2.2.2.1 ec166 (cCal_cons (cAl_cons (eoc137.mono (by decide)) ewc137 (cAl_nil)) (cCal_cons (cAl_cons (eoc138.mono (by decide)) ewc138 (cAl_nil)) (cCal_nil))) (by decide +kernel)
/-- SpanCopier.image(I)Z2 -/
def enim2 : cCn := ((1, 1, ([(0, 2, 2147483647)], [], [(0, 11, 11, false, (0, []))], []), [(1, 0, (0, [])), (0, 0, (0, [(0, 1)]))]), (2, 1, ([(1, 0, 0)], [], [], []), [(0, 0, (0, [(1, 1)]))]), [])
theorem ewim2 : cwCn enim2 = true := by decide +kernel
theorem eoim2 : cOk cT0 ey166 3 4 0 0 enim2 := c_ok (d := 3) (Γ := eg166) (Ga := [[(22, 1824, enc137)], [(0, 0, enc138)]]) (cr := []) (code := ek166) (ps := []) (fuel := 700) emp166.1.2.2.2.2.2.1 ec166 (cCal_cons (cAl_cons (eoc137.mono (by decide)) ewc137 (cAl_nil)) (cCal_cons (cAl_cons (eoc138.mono (by decide)) ewc138 (cAl_nil)) (cCal_nil))) (by decide +kernel)
