/-- SpanCopierModel.keep(IZ)Z -/
def enr40 : cCn := ((2, 1, ([(0, 0, 119), (1, 0, 1)], [], [(0, 12, 12, false, (0, []))], []), [(1, 0, (0, [])), (0, 0, (0, [(0, 1)])), (0, 0, (0, [(1, 1)]))]), (2, 1, ([], [], [], []), [(0, 0, (0, [(1, 1)]))]), [(41, 0, 119)])
theorem ewr40 : cwCn enr40 = true := by decide +kernel
theorem eor40 : cOk cT0 ey280 3 1 0 0 enr40 := c_ok (d := 0) (Γ := eg280) (Ga := []) (cr := []) (code := ek280) (ps := []) (fuel := 700) emp280.1.2.2.2.2.2.1 ec280 (cCal_nil) (by decide +kernel)
/-- SpanCopierModel.order()I -/
def enr41 : cCn := ((0, 1, ([], [], [(0, 12, 12, false, (0, []))], []), [(1, 0, (0, []))]), (1, 1, ([], [], [], []), [(0, 0, (0, [(0, 1)]))]), [(12, 0, 0), (12, 2, 11), (12, 13, 13), (12, 25, 25), (41, 0, 3024), (41, 5000, 5000), (43, 0, 6)])
theorem ewr41 : cwCn enr41 = true := by decide +kernel
theorem eor41 : cOk cT0 ey204 3 9 0 0 enr41 := c_ok (d := 8) (Γ := eg204) (Ga := [[(0, 0, enr20)], [(0, 0, enx2)], [(0, 0, enr39)], [(0, 0, enr23), (0, 0, enr24)], [(0, 0, enx4)]]) (cr := []) (code := ek204) (ps := [(13, (3, 1, ([(0, 0, 940), (1, 0, 4)], [], [(0, 12, 12, false, (0, []))], [(0, 5, (0, 0, (0, [(0, 1)]))), (0, 7, (0, 0, (0, [(1, 1)])))]), 0, 0), [(1, 0, (0, [])), (0, 0, (0, [(2, 1)])), (4, 0, (0, []))], [], [(3000, [(0, -3)])], [(1, 0, (0, []))]),
  (75, (2, 1, ([(1, 0, 10)], [], [(0, 12, 12, false, (0, []))], []), 0, 0), [(1, 0, (0, [])), (0, 0, (0, [(0, 1)])), (0, 0, (0, [(1, 1)]))], [], [(10, [(1, -1)])], [(1, 0, (0, []))])]) (fuel := 700) emp204.1.2.2.2.2.2.1 ec204 (cCal_cons (cAl_cons (eor20.mono (by decide)) ewr20 (cAl_nil)) (cCal_cons (cAl_cons (eox2.mono (by decide)) ewx2 (cAl_nil)) (cCal_cons (cAl_cons (eor39.mono (by decide)) ewr39 (cAl_nil)) (cCal_cons (cAl_cons (eor23.mono (by decide)) ewr23 (cAl_cons (eor24.mono (by decide)) ewr24 (cAl_nil))) (cCal_cons (cAl_cons (eox4.mono (by decide)) ewx4 (cAl_nil)) (cCal_nil)))))) (by decide +kernel)
/-- SpanCopierModel.atPlace(II)I -/
def enr42 : cCn := ((2, 0, ([], [], [], []), [(0, 0, (0, [(0, 1)])), (0, 0, (0, [(1, 1)]))]), (3, 0, ([], [], [], []), [(0, 0, (0, [(2, 1)]))]), [])
theorem ewr42 : cwCn enr42 = true := by decide +kernel
theorem eor42 : cOk cT0 ey206 2 1 0 0 enr42 := c_ok (d := 0) (Γ := eg206) (Ga := []) (cr := []) (code := ek206) (ps := []) (fuel := 700) emp206.1.2.2.2.2.2.1 ec206 (cCal_nil) (by decide +kernel)
/-- SpanCopierModel.fileSum()I -/
def enr43 : cCn := ((0, 1, ([], [], [(0, 12, 12, false, (0, []))], []), [(1, 0, (0, []))]), (1, 1, ([], [], [], []), [(0, 0, (0, [(0, 1)]))]), [])
theorem ewr43 : cwCn enr43 = true := by decide +kernel
theorem eor43 : cOk cT0 ey207 3 2 0 0 enr43 := c_ok (d := 1) (Γ := eg207) (Ga := [[(0, 0, enr42)]]) (cr := []) (code := ek207) (ps := [(4, (2, 1, ([(1, 0, 240)], [], [(0, 12, 12, false, (0, []))], []), 0, 0), [(1, 0, (0, [])), (0, 0, (0, [(0, 1)])), (0, 0, (0, [(1, 1)]))], [], [(240, [(1, -1)])], [(1, 0, (0, []))])]) (fuel := 700) emp207.1.2.2.2.2.2.1 ec207 (cCal_cons (cAl_cons (eor42.mono (by decide)) ewr42 (cAl_nil)) (cCal_nil)) (by decide +kernel)
/-- SpanCopierModel.takenSum()I -/
def enr44 : cCn := ((0, 1, ([], [], [(0, 12, 12, false, (0, []))], []), [(1, 0, (0, []))]), (1, 1, ([], [], [], []), [(0, 0, (0, [(0, 1)]))]), [])
theorem ewr44 : cwCn enr44 = true := by decide +kernel
theorem eor44 : cOk cT0 ey208 3 2 0 0 enr44 := c_ok (d := 1) (Γ := eg208) (Ga := [[(0, 0, enr42)]]) (cr := []) (code := ek208) (ps := [(4, (2, 1, ([(1, 0, 240)], [], [(0, 12, 12, false, (0, []))], []), 0, 0), [(1, 0, (0, [])), (0, 0, (0, [(0, 1)])), (0, 0, (0, [(1, 1)]))], [], [(240, [(1, -1)])], [(1, 0, (0, []))])]) (fuel := 700) emp208.1.2.2.2.2.2.1 ec208 (cCal_cons (cAl_cons (eor42.mono (by decide)) ewr42 (cAl_nil)) (cCal_nil)) (by decide +kernel)
/-- SpanCopierModel.isGap(I)Z -/
def enr45 : cCn := ((1, 1, ([(0, 0, 2147483647)], [], [(0, 12, 12, false, (0, []))], []), [(1, 0, (0, [])), (0, 0, (0, [(0, 1)]))]), (2, 1, ([(1, 0, 1)], [], [], []), [(0, 0, (0, [(1, 1)]))]), [])
theorem ewr45 : cwCn enr45 = true := by decide +kernel
theorem eor45 : cOk cT0 ey209 2 1 0 0 enr45 := c_ok (d := 0) (Γ := eg209) (Ga := []) (cr := []) (code := ek209) (ps := []) (fuel := 700) emp209.1.2.2.2.2.2.1 ec209 (cCal_nil) (by decide +kernel)
/-- SpanCopierModel.isMarked(II)Z -/
def enr46 : cCn := ((2, 1, ([(1, 0, 2147483647)], [], [(0, 12, 12, false, (0, []))], []), [(1, 0, (0, [])), (0, 0, (0, [(0, 1)])), (0, 0, (0, [(1, 1)]))]), (3, 1, ([(2, 0, 1)], [], [], []), [(0, 0, (0, [(2, 1)]))]), [])
theorem ewr46 : cwCn enr46 = true := by decide +kernel
theorem eor46 : cOk cT0 ey210 3 2 0 0 enr46 := c_ok (d := 1) (Γ := eg210) (Ga := [[(0, 0, enr45)]]) (cr := []) (code := ek210) (ps := []) (fuel := 700) emp210.1.2.2.2.2.2.1 ec210 (cCal_cons (cAl_cons (eor45.mono (by decide)) ewr45 (cAl_nil)) (cCal_nil)) (by decide +kernel)
/-- SpanCopierModel.nextMark(IIZ)I -/
def enr47 : cCn := ((3, 1, ([(1, 0, 240), (2, 0, 1)], [], [(0, 12, 12, false, (0, []))], []), [(1, 0, (0, [])), (0, 0, (0, [(0, 1)])), (0, 0, (0, [(1, 1)])), (0, 0, (0, [(2, 1)]))]), (4, 1, ([(3, 0, 240)], [(0, [(1, -1), (3, 1)])], [], []), [(0, 0, (0, [(3, 1)]))]), [])
theorem ewr47 : cwCn enr47 = true := by decide +kernel
theorem eor47 : cOk cT0 ey211 5 3 0 0 enr47 := c_ok (d := 2) (Γ := eg211) (Ga := [[(0, 0, enr46)]]) (cr := []) (code := ek211) (ps := [(3, (4, 1, ([(1, 0, 240), (2, 0, 1), (3, 0, 240)], [(0, [(1, -1), (3, 1)])], [(0, 12, 12, false, (0, []))], []), 0, 0), [(1, 0, (0, [])), (0, 0, (0, [(0, 1)])), (0, 0, (0, [(1, 1)])), (0, 0, (0, [(2, 1)])), (0, 0, (0, [(3, 1)]))], [], [(240, [(3, -1)]), (0, [(0, 1)]), (0, [(1, 1)]), (0, [(2, 1)])], [(1, 0, (0, []))])]) (fuel := 700) emp211.1.2.2.2.2.2.1 ec211 (cCal_cons (cAl_cons (eor46.mono (by decide)) ewr46 (cAl_nil)) (cCal_nil)) (by decide +kernel)
/-- SpanCopierModel.spanEnd(III)I -/
def enr48 : cCn := ((3, 1, ([], [], [(0, 12, 12, false, (0, []))], []), [(1, 0, (0, [])), (0, 0, (0, [(0, 1)])), (0, 0, (0, [(1, 1)])), (0, 0, (0, [(2, 1)]))]), (4, 1, ([(3, -1, 240)], [], [], []), [(0, 0, (0, [(3, 1)]))]), [])
theorem ewr48 : cwCn enr48 = true := by decide +kernel
theorem eor48 : cOk cT0 ey213 6 6 0 0 enr48 := c_ok (d := 5) (Γ := eg213) (Ga := [[(0, 0, enx11)], [(0, 0, enr8)], [(0, 0, enr47)]]) (cr := []) (code := ek213) (ps := [(38, (5, 1, ([(3, 0, 240), (4, 0, 2147483647)], [], [(0, 12, 12, false, (0, []))], []), 0, 0), [(1, 0, (0, [])), (0, 0, (0, [(0, 1)])), (0, 0, (0, [(1, 1)])), (0, 0, (0, [(2, 1)])), (0, 0, (0, [(3, 1)])), (0, 0, (0, [(4, 1)]))], [], [(2147483647, [(4, -1)]), (0, [(0, 1)]), (0, [(1, 1)]), (0, [(2, 1)])], [(1, 0, (0, []))])]) (fuel := 700) emp213.1.2.2.2.2.2.1 ec213 (cCal_cons (cAl_cons (eox11.mono (by decide)) ewx11 (cAl_nil)) (cCal_cons (cAl_cons (eor8.mono (by decide)) ewr8 (cAl_nil)) (cCal_cons (cAl_cons (eor47.mono (by decide)) ewr47 (cAl_nil)) (cCal_nil)))) (by decide +kernel)
/-- SpanCopierModel.unitAt(I)I -/
def enr49 : cCn := ((1, 1, ([(0, 0, 40)], [], [(0, 12, 12, false, (0, []))], []), [(1, 0, (0, [])), (0, 0, (0, [(0, 1)]))]), (1, 1, ([], [], [], []), [(0, 0, (1504, [(0, 38)]))]), [])
theorem ewr49 : cwCn enr49 = true := by decide +kernel
theorem eor49 : cOk cT0 ey214 2 1 0 0 enr49 := c_ok (d := 0) (Γ := eg214) (Ga := []) (cr := []) (code := ek214) (ps := []) (fuel := 700) emp214.1.2.2.2.2.2.1 ec214 (cCal_nil) (by decide +kernel)
/-- SpanCopierModel.isUnit(I)Z -/
def enr50 : cCn := ((1, 1, ([], [], [(0, 12, 12, false, (0, []))], []), [(1, 0, (0, [])), (0, 0, (0, [(0, 1)]))]), (3, 2, ([(1, 0, 1), (2, 0, 40)], [(4294967296, [(0, 1), (1, -4294967296)]), (4294967295, [(0, -1), (1, -4294967296), (2, 1)])], [(1, 41, 61, false, (3266, []))], [(0, 14, (1, 1, (0, []))), (1, 45, (0, 0, (0, [(2, 1)])))]), [(0, 0, (0, [(1, 1)]))]), [])
theorem ewr50 : cwCn enr50 = true := by decide +kernel
theorem eor50 : cOk cT0 ey215 2 2 0 0 enr50 := c_ok (d := 1) (Γ := eg215) (Ga := [[(0, 0, enr8)]]) (cr := []) (code := ek215) (ps := []) (fuel := 700) emp215.1.2.2.2.2.2.1 ec215 (cCal_cons (cAl_cons (eor8.mono (by decide)) ewr8 (cAl_nil)) (cCal_nil)) (by decide +kernel)
/-- SpanCopierModel.sendEof()V -/
def enr51 : cCn := ((0, 1, ([], [], [(0, 12, 12, false, (0, []))], []), [(1, 0, (0, []))]), (0, 1, ([], [], [], []), []), [(41, 35, 35), (41, 45, 45), (41, 1504, 3023)])
theorem ewr51 : cwCn enr51 = true := by decide +kernel
theorem eor51 : cOk cT0 ey218 1 4 0 0 enr51 := c_ok (d := 3) (Γ := eg218) (Ga := [[(0, 0, enr43)], [(0, 0, enx5), (0, 0, enx6), (0, 0, enx7), (0, 0, enx8)]]) (cr := []) (code := ek218) (ps := []) (fuel := 700) emp218.1.2.2.2.2.2.1 ec218 (cCal_cons (cAl_cons (eor43.mono (by decide)) ewr43 (cAl_nil)) (cCal_cons (cAl_cons (eox5.mono (by decide)) ewx5 (cAl_cons (eox6.mono (by decide)) ewx6 (cAl_cons (eox7.mono (by decide)) ewx7 (cAl_cons (eox8.mono (by decide)) ewx8 (cAl_nil))))) (cCal_nil))) (by decide +kernel)
/-- SpanCopierModel.dataComes()V -/
def enr52 : cCn := ((1, 2, ([(0, 0, 0)], [], [(0, 12, 12, false, (0, [])), (1, 41, 70, false, (38, []))], [(0, 26, (1, 1, (0, []))), (1, 0, (0, 0, (0, [(0, 1)])))]), [(1, 0, (0, []))]), (1, 2, ([], [], [], []), []), [(41, 35, 35), (41, 45, 47), (41, 51, 52), (41, 55, 534), (41, 1504, 3023)])
theorem ewr52 : cwCn enr52 = true := by decide +kernel
theorem eor52 : cOk cT0 ey223 6 5 0 0 enr52 := c_ok (d := 4) (Γ := eg223) (Ga := [[(0, 0, enr45)], [(0, 0, enx10)]]) (cr := []) (code := ek223) (ps := [(50, (6, 2, ([(0, 0, 0), (1, 0, 240), (2, -2147483648, 240), (3, 0, 240), (5, 0, 240)], [(32, [(1, 1), (2, -1)]), (0, [(1, -1), (5, 1)])], [(0, 12, 12, false, (0, [])), (1, 41, 70, false, (38, []))], []), 0, 0), [(1, 0, (0, [])), (0, 0, (0, [(1, 1)])), (0, 0, (0, [(2, 1)])), (0, 0, (0, [(3, 1)])), (0, 0, (0, [(4, 1)])), (0, 0, (0, [(5, 1)]))], [], [(600, [(5, -1)]), (0, [(0, 1)])], [(1, 0, (0, [])), (1, 1, (0, []))]),
  (99, (6, 2, ([(0, 0, 0), (1, 0, 240), (2, -2147483648, 240), (3, 0, 240), (5, 0, 240)], [(32, [(1, 1), (2, -1)]), (0, [(1, -1), (5, 1)])], [(0, 12, 12, false, (0, [])), (1, 41, 70, false, (38, []))], []), 0, 0), [(1, 0, (0, [])), (0, 0, (0, [(1, 1)])), (0, 0, (0, [(2, 1)])), (0, 0, (0, [(3, 1)])), (0, 0, (0, [(4, 1)])), (0, 0, (0, [(5, 1)]))], [], [(240, [(5, -1)]), (0, [(0, 1)])], [(1, 0, (0, [])), (1, 1, (0, []))])]) (fuel := 700) emp223.1.2.2.2.2.2.1 ec223 (cCal_cons (cAl_cons (eor45.mono (by decide)) ewr45 (cAl_nil)) (cCal_cons (cAl_cons (eox10.mono (by decide)) ewx10 (cAl_nil)) (cCal_nil))) (by decide +kernel)
/-- SpanCopierModel.eofComes()V -/
def enr53 : cCn := ((1, 2, ([(0, 1, 1)], [], [(0, 12, 12, false, (0, [])), (1, 41, 70, false, (38, []))], [(0, 26, (1, 1, (0, []))), (1, 0, (0, 0, (0, [(0, 1)])))]), [(1, 0, (0, []))]), (1, 2, ([], [], [], []), []), [(41, 35, 35), (41, 45, 52), (41, 1504, 3023)])
theorem ewr53 : cwCn enr53 = true := by decide +kernel
theorem eor53 : cOk cT0 ey224 1 8 0 0 enr53 := c_ok (d := 7) (Γ := eg224) (Ga := [[(0, 0, enx11)], [(0, 0, enx12)], [(0, 0, enx5), (0, 0, enx6), (0, 0, enx7), (0, 0, enx8)]]) (cr := []) (code := ek224) (ps := []) (fuel := 700) emp224.1.2.2.2.2.2.1 ec224 (cCal_cons (cAl_cons (eox11.mono (by decide)) ewx11 (cAl_nil)) (cCal_cons (cAl_cons (eox12.mono (by decide)) ewx12 (cAl_nil)) (cCal_cons (cAl_cons (eox5.mono (by decide)) ewx5 (cAl_cons (eox6.mono (by decide)) ewx6 (cAl_cons (eox7.mono (by decide)) ewx7 (cAl_cons (eox8.mono (by decide)) ewx8 (cAl_nil))))) (cCal_nil)))) (by decide +kernel)
/-- SpanCopierModel.isBusy()Z -/
def enr54 : cCn := ((0, 1, ([], [], [(0, 12, 12, false, (0, []))], []), [(1, 0, (0, []))]), (1, 1, ([(0, 0, 1)], [], [], []), [(0, 0, (0, [(0, 1)]))]), [])
theorem ewr54 : cwCn enr54 = true := by decide +kernel
theorem eor54 : cOk cT0 ey225 1 1 0 0 enr54 := c_ok (d := 0) (Γ := eg225) (Ga := []) (cr := []) (code := ek225) (ps := []) (fuel := 700) emp225.1.2.2.2.2.2.1 ec225 (cCal_nil) (by decide +kernel)
/-- SpanCopierModel.nakComes()V -/
def enr55 : cCn := ((1, 2, ([(0, 2, 2)], [], [(0, 12, 12, false, (0, [])), (1, 41, 70, false, (38, []))], [(0, 26, (1, 1, (0, []))), (1, 0, (0, 0, (0, [(0, 1)])))]), [(1, 0, (0, []))]), (1, 2, ([], [], [], []), []), [(41, 1263, 1503)])
theorem ewr55 : cwCn enr55 = true := by decide +kernel
theorem eor55 : cOk cT0 ey226 3 2 0 0 enr55 := c_ok (d := 1) (Γ := eg226) (Ga := [[(0, 0, enr54)]]) (cr := []) (code := ek226) (ps := [(10, (3, 2, ([(0, 2, 2), (1, 2, 2), (2, 0, 17)], [], [(0, 12, 12, false, (0, [])), (1, 41, 70, false, (38, []))], [(0, 26, (1, 1, (0, []))), (1, 0, (0, 0, (0, [(1, 1)])))]), 0, 0), [(1, 0, (0, [])), (0, 0, (0, [(2, 1)])), (4, 0, (0, []))], [], [(17500, [(2, -1000)]), (0, [(0, 1)])], [(1, 0, (0, [])), (1, 1, (0, []))]),
  (30, (4, 2, ([(0, 2, 2), (1, 2, 2), (2, 0, 15), (3, -1, 240)], [], [(0, 12, 12, false, (0, [])), (1, 41, 70, false, (38, []))], [(0, 26, (1, 1, (0, []))), (1, 0, (0, 0, (0, [(1, 1)])))]), 0, 0), [(1, 0, (0, [])), (0, 0, (0, [(2, 1)])), (0, 0, (0, [(3, 1)]))], [], [(17240, [(2, -1000), (3, -1)]), (0, [(0, 1)])], [(1, 0, (0, [])), (1, 1, (0, []))])]) (fuel := 700) emp226.1.2.2.2.2.2.1 ec226 (cCal_cons (cAl_cons (eor54.mono (by decide)) ewr54 (cAl_nil)) (cCal_nil)) (by decide +kernel)
/-- SpanCopierModel.finComes()V -/
def enr56 : cCn := ((0, 1, ([], [], [(0, 12, 12, false, (0, []))], []), [(1, 0, (0, []))]), (0, 1, ([], [], [], []), []), [(41, 29, 29), (41, 35, 35), (41, 45, 45), (41, 1504, 3023)])
theorem ewr56 : cwCn enr56 = true := by decide +kernel
theorem eor56 : cOk cT0 ey227 1 4 0 0 enr56 := c_ok (d := 3) (Γ := eg227) (Ga := [[(0, 0, enr54)], [(0, 0, enx5), (0, 0, enx6), (0, 0, enx7), (0, 0, enx8)]]) (cr := []) (code := ek227) (ps := []) (fuel := 700) emp227.1.2.2.2.2.2.1 ec227 (cCal_cons (cAl_cons (eor54.mono (by decide)) ewr54 (cAl_nil)) (cCal_cons (cAl_cons (eox5.mono (by decide)) ewx5 (cAl_cons (eox6.mono (by decide)) ewx6 (cAl_cons (eox7.mono (by decide)) ewx7 (cAl_cons (eox8.mono (by decide)) ewx8 (cAl_nil))))) (cCal_nil))) (by decide +kernel)
/-- SpanCopierModel.goesToTaker(I)Z -/
def enr57 : cCn := ((1, 0, ([], [], [], []), [(0, 0, (0, [(0, 1)]))]), (2, 0, ([(1, 0, 1)], [], [], []), [(0, 0, (0, [(1, 1)]))]), [])
theorem ewr57 : cwCn enr57 = true := by decide +kernel
theorem eor57 : cOk cT0 ey222 1 1 0 0 enr57 := c_ok (d := 0) (Γ := eg222) (Ga := []) (cr := []) (code := ek222) (ps := []) (fuel := 700) emp222.1.2.2.2.2.2.1 ec222 (cCal_nil) (by decide +kernel)
/-- SpanCopierModel.comes()V -/
def enr58 : cCn := ((0, 1, ([], [], [(0, 12, 12, false, (0, []))], []), [(1, 0, (0, []))]), (0, 1, ([], [], [], []), []), [(41, 29, 29), (41, 34, 35), (41, 45, 52), (41, 55, 534), (41, 1263, 3023)])
theorem ewr58 : cwCn enr58 = true := by decide +kernel
theorem eor58 : cOk cT0 ey228 1 9 0 0 enr58 := c_ok (d := 8) (Γ := eg228) (Ga := [[(0, 0, enr52)], [(0, 0, enr53)], [(0, 0, enx12)], [(0, 0, enr55)], [(0, 0, enr56)]]) (cr := []) (code := ek228) (ps := []) (fuel := 700) emp228.1.2.2.2.2.2.1 ec228 (cCal_cons (cAl_cons (eor52.mono (by decide)) ewr52 (cAl_nil)) (cCal_cons (cAl_cons (eor53.mono (by decide)) ewr53 (cAl_nil)) (cCal_cons (cAl_cons (eox12.mono (by decide)) ewx12 (cAl_nil)) (cCal_cons (cAl_cons (eor55.mono (by decide)) ewr55 (cAl_nil)) (cCal_cons (cAl_cons (eor56.mono (by decide)) ewr56 (cAl_nil)) (cCal_nil)))))) (by decide +kernel)
/-- SpanCopierModel.sendsAgain()V -/
def enr59 : cCn := ((0, 1, ([], [], [(0, 12, 12, false, (0, []))], []), [(1, 0, (0, []))]), (0, 1, ([], [], [], []), []), [(41, 35, 35), (41, 45, 45), (41, 1264, 3023)])
theorem ewr59 : cwCn enr59 = true := by decide +kernel
theorem eor59 : cOk cT0 ey230 4 5 0 0 enr59 := c_ok (d := 4) (Γ := eg230) (Ga := [[(0, 0, enr47)], [(0, 0, enr6), (0, 0, enr7)], [(0, 0, enx9)]]) (cr := []) (code := ek230) (ps := [(37, (3, 1, ([(0, 0, 240), (1, 0, 240), (2, 0, 240)], [], [(0, 12, 12, false, (0, []))], []), 0, 0), [(1, 0, (0, [])), (0, 0, (0, [(0, 1)])), (0, 0, (0, [(1, 1)])), (0, 0, (0, [(2, 1)]))], [], [(240, [(2, -1)])], [(1, 0, (0, []))])]) (fuel := 700) emp230.1.2.2.2.2.2.1 ec230 (cCal_cons (cAl_cons (eor47.mono (by decide)) ewr47 (cAl_nil)) (cCal_cons (cAl_cons (eor6.mono (by decide)) ewr6 (cAl_cons (eor7.mono (by decide)) ewr7 (cAl_nil))) (cCal_cons (cAl_cons (eox9.mono (by decide)) ewx9 (cAl_nil)) (cCal_nil)))) (by decide +kernel)
/-- SpanCopierModel.sendsOn()V -/
def enr60 : cCn := ((0, 1, ([], [], [(0, 12, 12, false, (0, []))], []), [(1, 0, (0, []))]), (0, 1, ([], [], [], []), []), [(41, 29, 29), (41, 31, 33), (41, 35, 35), (41, 45, 45), (41, 1504, 3023)])
theorem ewr60 : cwCn enr60 = true := by decide +kernel
theorem eor60 : cOk cT0 ey231 2 5 0 0 enr60 := c_ok (d := 4) (Γ := eg231) (Ga := [[(0, 0, enr6), (0, 0, enr7)], [(0, 0, enx9)], [(0, 0, enr51)]]) (cr := []) (code := ek231) (ps := []) (fuel := 700) emp231.1.2.2.2.2.2.1 ec231 (cCal_cons (cAl_cons (eor6.mono (by decide)) ewr6 (cAl_cons (eor7.mono (by decide)) ewr7 (cAl_nil))) (cCal_cons (cAl_cons (eox9.mono (by decide)) ewx9 (cAl_nil)) (cCal_cons (cAl_cons (eor51.mono (by decide)) ewr51 (cAl_nil)) (cCal_nil)))) (by decide +kernel)
/-- SpanCopierModel.senderGoes()V -/
def enr61 : cCn := ((0, 1, ([], [], [(0, 12, 12, false, (0, []))], []), [(1, 0, (0, []))]), (0, 1, ([], [], [], []), []), [(41, 29, 29), (41, 31, 35), (41, 45, 45), (41, 1264, 3023)])
theorem ewr61 : cwCn enr61 = true := by decide +kernel
theorem eor61 : cOk cT0 ey232 2 6 0 0 enr61 := c_ok (d := 5) (Γ := eg232) (Ga := [[(0, 0, enr54)], [(0, 0, enr47)], [(0, 0, enr59)], [(0, 0, enr60)], [(0, 0, enr51)]]) (cr := []) (code := ek232) (ps := []) (fuel := 700) emp232.1.2.2.2.2.2.1 ec232 (cCal_cons (cAl_cons (eor54.mono (by decide)) ewr54 (cAl_nil)) (cCal_cons (cAl_cons (eor47.mono (by decide)) ewr47 (cAl_nil)) (cCal_cons (cAl_cons (eor59.mono (by decide)) ewr59 (cAl_nil)) (cCal_cons (cAl_cons (eor60.mono (by decide)) ewr60 (cAl_nil)) (cCal_cons (cAl_cons (eor51.mono (by decide)) ewr51 (cAl_nil)) (cCal_nil)))))) (by decide +kernel)
/-- SpanCopierModel.finishes(I)V -/
def enr62 : cCn := ((1, 1, ([(0, 0, 2)], [], [(0, 12, 12, false, (0, []))], []), [(1, 0, (0, [])), (0, 0, (0, [(0, 1)]))]), (1, 1, ([], [], [], []), []), [(41, 35, 35), (41, 45, 46), (41, 52, 54), (41, 1504, 3023)])
theorem ewr62 : cwCn enr62 = true := by decide +kernel
theorem eor62 : cOk cT0 ey233 2 4 0 0 enr62 := c_ok (d := 3) (Γ := eg233) (Ga := [[(0, 0, enx5), (0, 0, enx6), (0, 0, enx7), (0, 0, enx8)]]) (cr := []) (code := ek233) (ps := []) (fuel := 700) emp233.1.2.2.2.2.2.1 ec233 (cCal_cons (cAl_cons (eox5.mono (by decide)) ewx5 (cAl_cons (eox6.mono (by decide)) ewx6 (cAl_cons (eox7.mono (by decide)) ewx7 (cAl_cons (eox8.mono (by decide)) ewx8 (cAl_nil))))) (cCal_nil)) (by decide +kernel)
/-- SpanCopierModel.takes()V -/
def enr63 : cCn := ((0, 1, ([], [], [(0, 12, 12, false, (0, []))], []), [(1, 0, (0, []))]), (0, 1, ([], [], [], []), []), [(41, 35, 35), (41, 45, 46), (41, 51, 54), (41, 1504, 3023)])
theorem ewr63 : cwCn enr63 = true := by decide +kernel
theorem eor63 : cOk cT0 ey234 1 8 0 0 enr63 := c_ok (d := 7) (Γ := eg234) (Ga := [[(0, 0, enx11)], [(0, 0, enr44)], [(0, 0, enr62)], [(0, 0, enx12)]]) (cr := []) (code := ek234) (ps := []) (fuel := 700) emp234.1.2.2.2.2.2.1 ec234 (cCal_cons (cAl_cons (eox11.mono (by decide)) ewx11 (cAl_nil)) (cCal_cons (cAl_cons (eor44.mono (by decide)) ewr44 (cAl_nil)) (cCal_cons (cAl_cons (eor62.mono (by decide)) ewr62 (cAl_nil)) (cCal_cons (cAl_cons (eox12.mono (by decide)) ewx12 (cAl_nil)) (cCal_nil))))) (by decide +kernel)
/-- SpanCopierModel.acts(I)Z -/
def enr64 : cCn := ((1, 1, ([(0, 0, 6)], [], [(0, 12, 12, false, (0, []))], []), [(1, 0, (0, [])), (0, 0, (0, [(0, 1)]))]), (2, 1, ([(1, 0, 1)], [], [], []), [(0, 0, (0, [(1, 1)]))]), [(41, 36, 36)])
theorem ewr64 : cwCn enr64 = true := by decide +kernel
theorem eor64 : cOk cT0 ey235 6 1 0 0 enr64 := c_ok (d := 0) (Γ := eg235) (Ga := []) (cr := []) (code := ek235) (ps := []) (fuel := 700) emp235.1.2.2.2.2.2.1 ec235 (cCal_nil) (by decide +kernel)
/-- SpanCopierModel.hasStopped()Z -/
def enr65 : cCn := ((0, 1, ([], [], [(0, 12, 12, false, (0, []))], []), [(1, 0, (0, []))]), (1, 1, ([(0, 0, 1)], [], [], []), [(0, 0, (0, [(0, 1)]))]), [])
theorem ewr65 : cwCn enr65 = true := by decide +kernel
theorem eor65 : cOk cT0 ey236 2 1 0 0 enr65 := c_ok (d := 0) (Γ := eg236) (Ga := []) (cr := []) (code := ek236) (ps := [(2, (1, 1, ([(0, 0, 6)], [], [(0, 12, 12, false, (0, []))], []), 0, 0), [(1, 0, (0, [])), (0, 0, (0, [(0, 1)]))], [], [(6, [(0, -1)])], [(1, 0, (0, []))])]) (fuel := 700) emp236.1.2.2.2.2.2.1 ec236 (cCal_nil) (by decide +kernel)
/-- SpanCopierModel.actsOn()V -/
def enr66 : cCn := ((0, 1, ([], [], [(0, 12, 12, false, (0, []))], []), [(1, 0, (0, []))]), (0, 1, ([], [], [], []), []), [(41, 35, 46), (41, 52, 54), (41, 1504, 3023)])
theorem ewr66 : cwCn enr66 = true := by decide +kernel
theorem eor66 : cOk cT0 ey237 2 5 0 0 enr66 := c_ok (d := 4) (Γ := eg237) (Ga := [[(0, 0, enr62)], [(0, 0, enr65)], [(0, 0, enr64)]]) (cr := [(57, 9001, 5)]) (code := ek237) (ps := []) (fuel := 700) emp237.1.2.2.2.2.2.1 ec237 (cCal_cons (cAl_cons (eor62.mono (by decide)) ewr62 (cAl_nil)) (cCal_cons (cAl_cons (eor65.mono (by decide)) ewr65 (cAl_nil)) (cCal_cons (cAl_cons (eor64.mono (by decide)) ewr64 (cAl_nil)) (cCal_nil)))) (by decide +kernel)
/-- SpanCopierModel.finishing()V -/
def enr67 : cCn := ((0, 1, ([], [], [(0, 12, 12, false, (0, []))], []), [(1, 0, (0, []))]), (0, 1, ([], [], [], []), []), [(41, 35, 35), (41, 45, 46), (41, 52, 52), (41, 54, 54), (41, 1504, 3023)])
theorem ewr67 : cwCn enr67 = true := by decide +kernel
theorem eor67 : cOk cT0 ey238 1 4 0 0 enr67 := c_ok (d := 3) (Γ := eg238) (Ga := [[(0, 0, enx5), (0, 0, enx6), (0, 0, enx7), (0, 0, enx8)]]) (cr := []) (code := ek238) (ps := []) (fuel := 700) emp238.1.2.2.2.2.2.1 ec238 (cCal_cons (cAl_cons (eox5.mono (by decide)) ewx5 (cAl_cons (eox6.mono (by decide)) ewx6 (cAl_cons (eox7.mono (by decide)) ewx7 (cAl_cons (eox8.mono (by decide)) ewx8 (cAl_nil))))) (cCal_nil)) (by decide +kernel)
/-- SpanCopierModel.takerGoes()V -/
def enr68 : cCn := ((0, 1, ([], [], [(0, 12, 12, false, (0, []))], []), [(1, 0, (0, []))]), (0, 1, ([], [], [], []), []), [(41, 35, 46), (41, 51, 54), (41, 1504, 3023)])
theorem ewr68 : cwCn enr68 = true := by decide +kernel
theorem eor68 : cOk cT0 ey239 1 9 0 0 enr68 := c_ok (d := 8) (Γ := eg239) (Ga := [[(0, 0, enr63)], [(0, 0, enr66)], [(0, 0, enr67)]]) (cr := []) (code := ek239) (ps := []) (fuel := 700) emp239.1.2.2.2.2.2.1 ec239 (cCal_cons (cAl_cons (eor63.mono (by decide)) ewr63 (cAl_nil)) (cCal_cons (cAl_cons (eor66.mono (by decide)) ewr66 (cAl_nil)) (cCal_cons (cAl_cons (eor67.mono (by decide)) ewr67 (cAl_nil)) (cCal_nil)))) (by decide +kernel)
/-- SpanCopierModel.oneTick()V -/
def enr69 : cCn := ((0, 1, ([], [], [(0, 12, 12, false, (0, []))], []), [(1, 0, (0, []))]), (0, 1, ([], [], [], []), []), [(41, 0, 1023), (41, 1263, 3023), (41, 5000, 5000)])
theorem ewr69 : cwCn enr69 = true := by decide +kernel
theorem eor69 : cOk cT0 ey240 1 13 0 0 enr69 := c_ok (d := 12) (Γ := eg240) (Ga := [[(0, 0, enx13)], [(0, 0, enr61)], [(0, 0, enr68)], [(0, 0, enx3)]]) (cr := []) (code := ek240) (ps := []) (fuel := 700) emp240.1.2.2.2.2.2.1 ec240 (cCal_cons (cAl_cons (eox13.mono (by decide)) ewx13 (cAl_nil)) (cCal_cons (cAl_cons (eor61.mono (by decide)) ewr61 (cAl_nil)) (cCal_cons (cAl_cons (eor68.mono (by decide)) ewr68 (cAl_nil)) (cCal_cons (cAl_cons (eox3.mono (by decide)) ewx3 (cAl_nil)) (cCal_nil))))) (by decide +kernel)
/-- SpanCopierModel.passTicks(I)I -/
def enr70 : cCn := ((1, 1, ([], [], [(0, 12, 12, false, (0, []))], []), [(1, 0, (0, [])), (0, 0, (0, [(0, 1)]))]), (2, 1, ([], [], [], []), [(0, 0, (0, [(1, 1)]))]), [(41, 0, 1023), (41, 1263, 3023), (41, 5000, 5000)])
theorem ewr70 : cwCn enr70 = true := by decide +kernel
theorem eor70 : cOk cT0 ey241 4 14 0 0 enr70 := c_ok (d := 13) (Γ := eg241) (Ga := [[(0, 0, enr6), (0, 0, enr7)], [(0, 0, enr69)]]) (cr := []) (code := ek241) (ps := [(18, (3, 1, ([(2, 0, 2147483647)], [], [(0, 12, 12, false, (0, []))], []), 0, 0), [(1, 0, (0, [])), (0, 0, (0, [(0, 1)])), (0, 0, (0, [(1, 1)])), (0, 0, (0, [(2, 1)]))], [], [(2147483647, [(2, -1)]), (0, [(0, 1)])], [(1, 0, (0, []))])]) (fuel := 700) emp241.1.2.2.2.2.2.1 ec241 (cCal_cons (cAl_cons (eor6.mono (by decide)) ewr6 (cAl_cons (eor7.mono (by decide)) ewr7 (cAl_nil))) (cCal_cons (cAl_cons (eor69.mono (by decide)) ewr69 (cAl_nil)) (cCal_nil))) (by decide +kernel)
/-- SpanCopierModel.undo()I -/
def enr71 : cCn := ((0, 1, ([], [], [(0, 12, 12, false, (0, []))], []), [(1, 0, (0, []))]), (1, 1, ([], [], [], []), [(0, 0, (0, [(0, 1)]))]), [(12, 0, 0), (12, 25, 25), (41, 28, 3023), (41, 5000, 5000)])
theorem ewr71 : cwCn enr71 = true := by decide +kernel
theorem eor71 : cOk cT0 ey245 1 3 0 0 enr71 := c_ok (d := 2) (Γ := eg245) (Ga := [[(0, 0, enx15), (0, 0, enx16)]]) (cr := []) (code := ek245) (ps := []) (fuel := 700) emp245.1.2.2.2.2.2.1 ec245 (cCal_cons (cAl_cons (eox15.mono (by decide)) ewx15 (cAl_cons (eox16.mono (by decide)) ewx16 (cAl_nil))) (cCal_nil)) (by decide +kernel)
/-- SpanCopierModel.file()I -/
def enr72 : cCn := ((0, 1, ([], [], [(0, 12, 12, false, (0, []))], []), [(1, 0, (0, []))]), (1, 1, ([], [], [], []), [(0, 0, (0, [(0, 1)]))]), [(12, 0, 0), (12, 2, 2), (12, 25, 25), (41, 0, 23967)])
theorem ewr72 : cwCn enr72 = true := by decide +kernel
theorem eor72 : cOk cT0 ey246 3 5 0 0 enr72 := c_ok (d := 4) (Γ := eg246) (Ga := [[(0, 0, enr1)], [(0, 0, enr8)], [(0, 0, enx17), (0, 0, enx18)], [(0, 0, enx4)]]) (cr := []) (code := ek246) (ps := [(41, (2, 1, ([(0, 1, 240), (1, 0, 240)], [], [(0, 12, 12, false, (0, []))], []), 0, 0), [(1, 0, (0, [])), (0, 0, (0, [(0, 1)])), (0, 0, (0, [(1, 1)]))], [], [(240, [(1, -1)])], [(1, 0, (0, []))])]) (fuel := 700) emp246.1.2.2.2.2.2.1 ec246 (cCal_cons (cAl_cons (eor1.mono (by decide)) ewr1 (cAl_nil)) (cCal_cons (cAl_cons (eor8.mono (by decide)) ewr8 (cAl_nil)) (cCal_cons (cAl_cons (eox17.mono (by decide)) ewx17 (cAl_cons (eox18.mono (by decide)) ewx18 (cAl_nil))) (cCal_cons (cAl_cons (eox4.mono (by decide)) ewx4 (cAl_nil)) (cCal_nil))))) (by decide +kernel)
/-- SpanCopierModel.ticks(I)I -/
def enr73 : cCn := ((1, 1, ([], [], [(0, 12, 12, false, (0, []))], []), [(1, 0, (0, [])), (0, 0, (0, [(0, 1)]))]), (2, 1, ([], [], [], []), [(0, 0, (0, [(1, 1)]))]), [(12, 0, 0), (12, 25, 25), (41, 0, 23967)])
theorem ewr73 : cwCn enr73 = true := by decide +kernel
theorem eor73 : cOk cT0 ey247 2 15 0 0 enr73 := c_ok (d := 14) (Γ := eg247) (Ga := [[(0, 0, enr8)], [(0, 0, enx17), (0, 0, enx18)], [(0, 0, enr70)]]) (cr := []) (code := ek247) (ps := []) (fuel := 700) emp247.1.2.2.2.2.2.1 ec247 (cCal_cons (cAl_cons (eor8.mono (by decide)) ewr8 (cAl_nil)) (cCal_cons (cAl_cons (eox17.mono (by decide)) ewx17 (cAl_cons (eox18.mono (by decide)) ewx18 (cAl_nil))) (cCal_cons (cAl_cons (eor70.mono (by decide)) ewr70 (cAl_nil)) (cCal_nil)))) (by decide +kernel)
/-- SpanCopierModel.why(II)I -/
def enr74 : cCn := ((2, 1, ([], [], [(0, 12, 12, false, (0, []))], []), [(1, 0, (0, [])), (0, 0, (0, [(0, 1)])), (0, 0, (0, [(1, 1)]))]), (3, 1, ([(2, 0, 1)], [], [], []), [(0, 0, (0, [(2, 1)]))]), [])
theorem ewr74 : cwCn enr74 = true := by decide +kernel
theorem eor74 : cOk cT0 ey248 3 2 0 0 enr74 := c_ok (d := 1) (Γ := eg248) (Ga := [[(0, 0, enr54)]]) (cr := []) (code := ek248) (ps := []) (fuel := 700) emp248.1.2.2.2.2.2.1 ec248 (cCal_cons (cAl_cons (eor54.mono (by decide)) ewr54 (cAl_nil)) (cCal_nil)) (by decide +kernel)
/-- SpanCopierModel.whySpoil(I)I -/
def enr75 : cCn := ((1, 1, ([(0, 0, 39)], [], [(0, 12, 12, false, (0, []))], []), [(1, 0, (0, [])), (0, 0, (0, [(0, 1)]))]), (2, 1, ([(1, 0, 2)], [], [], []), [(0, 0, (0, [(1, 1)]))]), [])
theorem ewr75 : cwCn enr75 = true := by decide +kernel
theorem eor75 : cOk cT0 ey249 2 2 0 0 enr75 := c_ok (d := 1) (Γ := eg249) (Ga := [[(0, 0, enr49)]]) (cr := []) (code := ek249) (ps := []) (fuel := 700) emp249.1.2.2.2.2.2.1 ec249 (cCal_cons (cAl_cons (eor49.mono (by decide)) ewr49 (cAl_nil)) (cCal_nil)) (by decide +kernel)
/-- SpanCopierModel.act(IIIZ)Ia -/
def enr76 : cCn := ((5, 2, ([(3, 0, 1), (4, 0, 40)], [(4294967296, [(1, 1), (3, -4294967296)]), (4294967295, [(1, -1), (3, -4294967296), (4, 1)])], [(0, 12, 12, false, (0, [])), (1, 41, 61, false, (3266, []))], [(0, 14, (1, 1, (0, []))), (1, 45, (0, 0, (0, [(4, 1)])))]), [(1, 0, (0, [])), (0, 0, (0, [(0, 1)])), (0, 0, (0, [(1, 1)])), (0, 0, (0, [(2, 1)])), (0, 0, (0, [(3, 1)]))]), (6, 2, ([], [], [], []), [(0, 0, (0, [(5, 1)]))]), [(12, 25, 25), (41, 0, 23967)])
theorem ewr76 : cwCn enr76 = true := by decide +kernel
theorem eor76 : cOk cT0 ey251 6 6 0 0 enr76 := c_ok (d := 5) (Γ := eg251) (Ga := [[(0, 0, enr75)], [(0, 0, enr74)], [(0, 0, enx17), (0, 0, enx18)], [(0, 0, enx19), (0, 0, enx20)]]) (cr := []) (code := ek251) (ps := []) (fuel := 700) emp251.1.2.2.2.2.2.1 ec251 (cCal_cons (cAl_cons (eor75.mono (by decide)) ewr75 (cAl_nil)) (cCal_cons (cAl_cons (eor74.mono (by decide)) ewr74 (cAl_nil)) (cCal_cons (cAl_cons (eox17.mono (by decide)) ewx17 (cAl_cons (eox18.mono (by decide)) ewx18 (cAl_nil))) (cCal_cons (cAl_cons (eox19.mono (by decide)) ewx19 (cAl_cons (eox20.mono (by decide)) ewx20 (cAl_nil))) (cCal_nil))))) (by decide +kernel)
/-- SpanCopierModel.act(IIIZ)Ib -/
def enr77 : cCn := ((4, 1, ([(0, 4, 2147483647), (3, 0, 1)], [], [(0, 12, 12, false, (0, []))], []), [(1, 0, (0, [])), (0, 0, (0, [(0, 1)])), (0, 0, (0, [(1, 1)])), (0, 0, (0, [(2, 1)])), (0, 0, (0, [(3, 1)]))]), (5, 1, ([], [], [], []), [(0, 0, (0, [(4, 1)]))]), [(12, 25, 25), (41, 0, 23967)])
theorem ewr77 : cwCn enr77 = true := by decide +kernel
theorem eor77 : cOk cT0 ey251 6 6 0 0 enr77 := c_ok (d := 5) (Γ := eg251) (Ga := [[(0, 0, enr75)], [(0, 0, enr74)], [(0, 0, enx17), (0, 0, enx18)], [(0, 0, enx19), (0, 0, enx20)]]) (cr := []) (code := ek251) (ps := []) (fuel := 700) emp251.1.2.2.2.2.2.1 ec251 (cCal_cons (cAl_cons (eor75.mono (by decide)) ewr75 (cAl_nil)) (cCal_cons (cAl_cons (eor74.mono (by decide)) ewr74 (cAl_nil)) (cCal_cons (cAl_cons (eox17.mono (by decide)) ewx17 (cAl_cons (eox18.mono (by decide)) ewx18 (cAl_nil))) (cCal_cons (cAl_cons (eox19.mono (by decide)) ewx19 (cAl_cons (eox20.mono (by decide)) ewx20 (cAl_nil))) (cCal_nil))))) (by decide +kernel)
/-- SpanCopierModel.lose(I)I -/
def enr78 : cCn := ((1, 1, ([], [], [(0, 12, 12, false, (0, []))], []), [(1, 0, (0, [])), (0, 0, (0, [(0, 1)]))]), (2, 1, ([], [], [], []), [(0, 0, (0, [(1, 1)]))]), [(12, 0, 0), (12, 25, 25), (41, 0, 23967)])
theorem ewr78 : cwCn enr78 = true := by decide +kernel
theorem eor78 : cOk cT0 ey252 2 7 0 0 enr78 := c_ok (d := 6) (Γ := eg252) (Ga := [[(0, 0, enr50)], [(0, 0, enr76), (0, 0, enr77)]]) (cr := []) (code := ek252) (ps := []) (fuel := 700) emp252.1.2.2.2.2.2.1 ec252 (cCal_cons (cAl_cons (eor50.mono (by decide)) ewr50 (cAl_nil)) (cCal_cons (cAl_cons (eor76.mono (by decide)) ewr76 (cAl_cons (eor77.mono (by decide)) ewr77 (cAl_nil))) (cCal_nil))) (by decide +kernel)
/-- SpanCopierModel.twice(I)I -/
def enr79 : cCn := ((1, 1, ([], [], [(0, 12, 12, false, (0, []))], []), [(1, 0, (0, [])), (0, 0, (0, [(0, 1)]))]), (2, 1, ([], [], [], []), [(0, 0, (0, [(1, 1)]))]), [(12, 0, 0), (12, 25, 25), (41, 0, 23967)])
theorem ewr79 : cwCn enr79 = true := by decide +kernel
theorem eor79 : cOk cT0 ey253 2 7 0 0 enr79 := c_ok (d := 6) (Γ := eg253) (Ga := [[(0, 0, enr50)], [(0, 0, enr76), (0, 0, enr77)]]) (cr := []) (code := ek253) (ps := []) (fuel := 700) emp253.1.2.2.2.2.2.1 ec253 (cCal_cons (cAl_cons (eor50.mono (by decide)) ewr50 (cAl_nil)) (cCal_cons (cAl_cons (eor76.mono (by decide)) ewr76 (cAl_cons (eor77.mono (by decide)) ewr77 (cAl_nil))) (cCal_nil))) (by decide +kernel)
