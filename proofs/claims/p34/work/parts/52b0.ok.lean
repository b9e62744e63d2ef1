/-- SpanCopierModel.refuse()I -/
def enr0 : cCn := ((0, 1, ([], [], [(0, 12, 12, false, (0, []))], []), [(1, 0, (0, []))]), (1, 1, ([], [], [], []), [(0, 0, (0, [(0, 1)]))]), [(12, 0, 0)])
theorem ewr0 : cwCn enr0 = true := by decide +kernel
theorem eor0 : cOk cT0 ey169 1 1 0 0 enr0 := c_ok (d := 0) (Γ := eg169) (Ga := []) (cr := []) (code := ek169) (ps := []) (fuel := 700) emp169.1.2.2.2.2.2.1 ec169 (cCal_nil) (by decide +kernel)
/-- SpanCopierModel.take()I -/
def enr1 : cCn := ((0, 1, ([], [], [(0, 12, 12, false, (0, []))], []), [(1, 0, (0, []))]), (1, 1, ([(0, 0, 940)], [], [], []), [(0, 0, (0, [(0, 1)]))]), [(12, 2, 2)])
theorem ewr1 : cwCn enr1 = true := by decide +kernel
theorem eor1 : cOk cT0 ey173 2 1 0 0 enr1 := c_ok (d := 0) (Γ := eg173) (Ga := []) (cr := []) (code := ek173) (ps := []) (fuel := 700) emp173.1.2.2.2.2.2.1 ec173 (cCal_nil) (by decide +kernel)
/-- SpanCopierModel.has(II)Z -/
def enr2 : cCn := ((2, 0, ([], [], [], []), [(0, 0, (0, [(0, 1)])), (0, 0, (0, [(1, 1)]))]), (3, 0, ([(2, 0, 1)], [], [], []), [(0, 0, (0, [(2, 1)]))]), [])
theorem ewr2 : cwCn enr2 = true := by decide +kernel
theorem eor2 : cOk cT0 ey175 2 1 0 0 enr2 := c_ok (d := 0) (Γ := eg175) (Ga := []) (cr := []) (code := ek175) (ps := []) (fuel := 700) emp175.1.2.2.2.2.2.1 ec175 (cCal_nil) (by decide +kernel)
/-- SpanCopierModel.isDigit(I)Z -/
def enr3 : cCn := ((1, 0, ([], [], [], []), [(0, 0, (0, [(0, 1)]))]), (2, 0, ([(1, 0, 1)], [], [], []), [(0, 0, (0, [(1, 1)]))]), [])
theorem ewr3 : cwCn enr3 = true := by decide +kernel
theorem eor3 : cOk cT0 ey178 1 1 0 0 enr3 := c_ok (d := 0) (Γ := eg178) (Ga := []) (cr := []) (code := ek178) (ps := []) (fuel := 700) emp178.1.2.2.2.2.2.1 ec178 (cCal_nil) (by decide +kernel)
/-- SpanCopierModel.isLetter(I)Z -/
def enr4 : cCn := ((1, 0, ([], [], [], []), [(0, 0, (0, [(0, 1)]))]), (2, 0, ([(1, 0, 1)], [], [], []), [(0, 0, (0, [(1, 1)]))]), [])
theorem ewr4 : cwCn enr4 = true := by decide +kernel
theorem eor4 : cOk cT0 ey179 1 1 0 0 enr4 := c_ok (d := 0) (Γ := eg179) (Ga := []) (cr := []) (code := ek179) (ps := []) (fuel := 700) emp179.1.2.2.2.2.2.1 ec179 (cCal_nil) (by decide +kernel)
/-- SpanCopierModel.tapeAt(I)I -/
def enr5 : cCn := ((1, 1, ([(0, 0, 940)], [], [(0, 12, 12, false, (0, []))], []), [(1, 0, (0, [])), (0, 0, (0, [(0, 1)]))]), (2, 1, ([], [], [], []), [(0, 0, (0, [(1, 1)]))]), [])
theorem ewr5 : cwCn enr5 = true := by decide +kernel
theorem eor5 : cOk cT0 ey177 2 1 0 0 enr5 := c_ok (d := 0) (Γ := eg177) (Ga := []) (cr := []) (code := ek177) (ps := []) (fuel := 700) emp177.1.2.2.2.2.2.1 ec177 (cCal_nil) (by decide +kernel)
/-- SpanCopierModel.least(II)I+ -/
def enr6 : cCn := ((2, 0, ([(0, 0, 2147483647), (1, 0, 2147483647)], [], [], []), [(0, 0, (0, [(0, 1)])), (0, 0, (0, [(1, 1)]))]), (3, 0, ([(2, 0, 2147483647)], [(0, [(0, 1), (2, -1)]), (0, [(1, 1), (2, -1)])], [], []), [(0, 0, (0, [(2, 1)]))]), [])
theorem ewr6 : cwCn enr6 = true := by decide +kernel
theorem eor6 : cOk cT0 ey176 2 1 0 0 enr6 := c_ok (d := 0) (Γ := eg176) (Ga := []) (cr := []) (code := ek176) (ps := []) (fuel := 700) emp176.1.2.2.2.2.2.1 ec176 (cCal_nil) (by decide +kernel)
/-- SpanCopierModel.least(II)I -/
def enr7 : cCn := ((2, 0, ([], [], [], []), [(0, 0, (0, [(0, 1)])), (0, 0, (0, [(1, 1)]))]), (3, 0, ([], [(0, [(0, 1), (2, -1)]), (0, [(1, 1), (2, -1)])], [], []), [(0, 0, (0, [(2, 1)]))]), [])
theorem ewr7 : cwCn enr7 = true := by decide +kernel
theorem eor7 : cOk cT0 ey176 2 1 0 0 enr7 := c_ok (d := 0) (Γ := eg176) (Ga := []) (cr := []) (code := ek176) (ps := []) (fuel := 700) emp176.1.2.2.2.2.2.1 ec176 (cCal_nil) (by decide +kernel)
/-- SpanCopierModel.isIn(III)Z -/
def enr8 : cCn := ((3, 0, ([], [], [], []), [(0, 0, (0, [(0, 1)])), (0, 0, (0, [(1, 1)])), (0, 0, (0, [(2, 1)]))]), (4, 0, ([(3, 0, 1)], [(4294967296, [(0, 1), (1, -1), (3, -4294967296)]), (4294967296, [(0, -1), (2, 1), (3, -4294967296)])], [], []), [(0, 0, (0, [(3, 1)]))]), [])
theorem ewr8 : cwCn enr8 = true := by decide +kernel
theorem eor8 : cOk cT0 ey174 3 1 0 0 enr8 := c_ok (d := 0) (Γ := eg174) (Ga := []) (cr := []) (code := ek174) (ps := []) (fuel := 700) emp174.1.2.2.2.2.2.1 ec174 (cCal_nil) (by decide +kernel)
/-- SpanCopierModel.come(I)V -/
def enr9 : cCn := ((2, 1, ([(1, 0, 936)], [], [(0, 12, 12, false, (0, []))], [(0, 2, (0, 0, (0, [(1, 1)])))]), [(1, 0, (0, [])), (0, 0, (0, [(0, 1)]))]), (2, 1, ([], [], [], [(0, 2, (0, 0, (4, [(1, 1)])))]), []), [(12, 2, 2), (41, 0, 939)])
theorem ewr9 : cwCn enr9 = true := by decide +kernel
theorem eor9 : cOk cT0 ey170 3 1 0 0 enr9 := c_ok (d := 0) (Γ := eg170) (Ga := []) (cr := []) (code := ek170) (ps := []) (fuel := 700) emp170.1.2.2.2.2.2.1 ec170 (cCal_nil) (by decide +kernel)
/-- SpanCopierModel.feed(IIIII)I -/
def enr10 : cCn := ((5, 1, ([], [], [(0, 12, 12, false, (0, []))], []), [(1, 0, (0, [])), (0, 0, (0, [(0, 1)])), (0, 0, (0, [(1, 1)])), (0, 0, (0, [(2, 1)])), (0, 0, (0, [(3, 1)])), (0, 0, (0, [(4, 1)]))]), (6, 1, ([], [], [], []), [(0, 0, (0, [(5, 1)]))]), [(12, 0, 0), (12, 2, 2), (41, 0, 939)])
theorem ewr10 : cwCn enr10 = true := by decide +kernel
theorem eor10 : cOk cT0 ey171 6 2 0 0 enr10 := c_ok (d := 1) (Γ := eg171) (Ga := [[(0, 0, enr9)]]) (cr := []) (code := ek171) (ps := []) (fuel := 700) emp171.1.2.2.2.2.2.1 ec171 (cCal_cons (cAl_cons (eor9.mono (by decide)) ewr9 (cAl_nil)) (cCal_nil)) (by decide +kernel)
/-- SpanCopierModel.end(I)Z -/
def enr11 : cCn := ((1, 1, ([], [], [(0, 12, 12, false, (0, []))], []), [(1, 0, (0, [])), (0, 0, (0, [(0, 1)]))]), (2, 1, ([(1, 0, 1)], [], [], []), [(0, 0, (0, [(1, 1)]))]), [(12, 0, 0), (12, 2, 2)])
theorem ewr11 : cwCn enr11 = true := by decide +kernel
theorem eor11 : cOk cT0 ey172 2 1 0 0 enr11 := c_ok (d := 0) (Γ := eg172) (Ga := []) (cr := []) (code := ek172) (ps := []) (fuel := 700) emp172.1.2.2.2.2.2.1 ec172 (cCal_nil) (by decide +kernel)
/-- SpanCopierModel.fault()I -/
def enr12 : cCn := ((0, 1, ([], [], [(0, 12, 12, false, (0, []))], []), [(1, 0, (0, []))]), (1, 1, ([], [], [], []), [(0, 0, (0, [(0, 1)]))]), [(12, 0, 0)])
theorem ewr12 : cwCn enr12 = true := by decide +kernel
theorem eor12 : cOk cT0 ey205 1 1 0 0 enr12 := c_ok (d := 0) (Γ := eg205) (Ga := []) (cr := []) (code := ek205) (ps := []) (fuel := 700) emp205.1.2.2.2.2.2.1 ec205 (cCal_nil) (by decide +kernel)
/-- SpanCopierModel.spelt(IIIIII)J -/
def enr13 : cCn := ((6, 0, ([], [], [], []), [(0, 0, (0, [(0, 1)])), (0, 0, (0, [(1, 1)])), (0, 0, (0, [(2, 1)])), (0, 0, (0, [(3, 1)])), (0, 0, (0, [(4, 1)])), (0, 0, (0, [(5, 1)]))]), (6, 0, ([], [], [], []), [(3, 0, (0, []))]), [])
theorem ewr13 : cwCn enr13 = true := by decide +kernel
theorem eor13 : cOk cT0 ey181 8 1 0 0 enr13 := c_ok (d := 0) (Γ := eg181) (Ga := []) (cr := []) (code := ek181) (ps := []) (fuel := 700) emp181.1.2.2.2.2.2.1 ec181 (cCal_nil) (by decide +kernel)
/-- SpanCopierModel.wordOf(I)J -/
def enr14 : cCn := ((1, 0, ([], [], [], []), [(0, 0, (0, [(0, 1)]))]), (1, 0, ([], [], [], []), [(3, 0, (0, []))]), [])
theorem ewr14 : cwCn enr14 = true := by decide +kernel
theorem eor14 : cOk cT0 ey182 1 2 0 0 enr14 := c_ok (d := 1) (Γ := eg182) (Ga := [[(0, 0, enr13)]]) (cr := []) (code := ek182) (ps := []) (fuel := 700) emp182.1.2.2.2.2.2.1 ec182 (cCal_cons (cAl_cons (eor13.mono (by decide)) ewr13 (cAl_nil)) (cCal_nil)) (by decide +kernel)
/-- SpanCopierModel.isWord(I)Z -/
def enr15 : cCn := ((1, 1, ([], [], [(0, 12, 12, false, (0, []))], []), [(1, 0, (0, [])), (0, 0, (0, [(0, 1)]))]), (2, 1, ([(1, 0, 1)], [], [], []), [(0, 0, (0, [(1, 1)]))]), [])
theorem ewr15 : cwCn enr15 = true := by decide +kernel
theorem eor15 : cOk cT0 ey183 2 3 0 0 enr15 := c_ok (d := 2) (Γ := eg183) (Ga := [[(0, 0, enr14)]]) (cr := []) (code := ek183) (ps := []) (fuel := 700) emp183.1.2.2.2.2.2.1 ec183 (cCal_cons (cAl_cons (eor14.mono (by decide)) ewr14 (cAl_nil)) (cCal_nil)) (by decide +kernel)
/-- SpanCopierModel.isSign(I)Zk -/
def enr16 : cCn := ((2, 1, ([(1, 0, 4)], [], [(0, 12, 12, false, (0, []))], [(0, 7, (0, 0, (0, [(1, 1)])))]), [(1, 0, (0, [])), (0, 0, (0, [(0, 1)]))]), (3, 1, ([(2, 0, 1)], [(4294967292, [(1, 1), (2, -4294967296)])], [], []), [(0, 0, (0, [(2, 1)]))]), [])
theorem ewr16 : cwCn enr16 = true := by decide +kernel
theorem eor16 : cOk cT0 ey184 2 1 0 0 enr16 := c_ok (d := 0) (Γ := eg184) (Ga := []) (cr := []) (code := ek184) (ps := []) (fuel := 700) emp184.1.2.2.2.2.2.1 ec184 (cCal_nil) (by decide +kernel)
/-- SpanCopierModel.isSign(I)Z -/
def enr17 : cCn := ((1, 1, ([], [], [(0, 12, 12, false, (0, []))], []), [(1, 0, (0, [])), (0, 0, (0, [(0, 1)]))]), (2, 1, ([(1, 0, 1)], [], [], []), [(0, 0, (0, [(1, 1)]))]), [])
theorem ewr17 : cwCn enr17 = true := by decide +kernel
theorem eor17 : cOk cT0 ey184 2 1 0 0 enr17 := c_ok (d := 0) (Γ := eg184) (Ga := []) (cr := []) (code := ek184) (ps := []) (fuel := 700) emp184.1.2.2.2.2.2.1 ec184 (cCal_nil) (by decide +kernel)
/-- SpanCopierModel.bad(I)Z -/
def enr18 : cCn := ((1, 1, ([], [], [(0, 12, 12, false, (0, []))], []), [(1, 0, (0, [])), (0, 0, (0, [(0, 1)]))]), (2, 1, ([(1, 0, 0)], [], [], []), [(0, 0, (0, [(1, 1)]))]), [(12, 10, 11)])
theorem ewr18 : cwCn enr18 = true := by decide +kernel
theorem eor18 : cOk cT0 ey186 2 1 0 0 enr18 := c_ok (d := 0) (Γ := eg186) (Ga := []) (cr := []) (code := ek186) (ps := []) (fuel := 700) emp186.1.2.2.2.2.2.1 ec186 (cCal_nil) (by decide +kernel)
/-- SpanCopierModel.isName()Z -/
def enr19 : cCn := ((0, 1, ([], [], [(0, 12, 12, false, (0, []))], []), [(1, 0, (0, []))]), (1, 1, ([(0, 0, 1)], [], [], []), [(0, 0, (0, [(0, 1)]))]), [])
theorem ewr19 : cwCn enr19 = true := by decide +kernel
theorem eor19 : cOk cT0 ey185 2 3 0 0 enr19 := c_ok (d := 2) (Γ := eg185) (Ga := [[(0, 0, enr14)]]) (cr := []) (code := ek185) (ps := [(12, (1, 1, ([(0, 0, 37)], [], [(0, 12, 12, false, (0, []))], []), 0, 0), [(1, 0, (0, [])), (0, 0, (0, [(0, 1)]))], [], [(37, [(0, -1)])], [(1, 0, (0, []))])]) (fuel := 700) emp185.1.2.2.2.2.2.1 ec185 (cCal_cons (cAl_cons (eor14.mono (by decide)) ewr14 (cAl_nil)) (cCal_nil)) (by decide +kernel)
/-- SpanCopierModel.findIn([JIIJ)I -/
def enr25 : cCn := ((2, 1, ([(0, 0, 0), (1, 0, 10)], [], [(0, 44, 66, false, (10, []))], []), [(1, 0, (0, [])), (0, 0, (0, [(0, 1)])), (0, 0, (0, [(1, 1)])), (3, 0, (0, []))]), (3, 1, ([(2, -1, 9)], [(-1, [(1, 1), (2, -1)])], [], []), [(0, 0, (0, [(2, 1)]))]), [])
theorem ewr25 : cwCn enr25 = true := by decide +kernel
theorem eor25 : cOk cT0 ey194 6 1 0 0 enr25 := c_ok (d := 0) (Γ := eg194) (Ga := []) (cr := []) (code := ek194) (ps := [(3, (3, 1, ([(0, 0, 0), (1, 0, 10), (2, 0, 10)], [], [(0, 44, 66, false, (10, []))], []), 0, 0), [(1, 0, (0, [])), (0, 0, (0, [(0, 1)])), (0, 0, (0, [(1, 1)])), (3, 0, (0, [])), (4, 0, (0, [])), (0, 0, (0, [(2, 1)]))], [], [(10, [(2, -1)]), (0, [(0, 1)]), (0, [(1, 1)])], [(1, 0, (0, []))])]) (fuel := 700) emp194.1.2.2.2.2.2.1 ec194 (cCal_nil) (by decide +kernel)
/-- SpanCopierModel.put(IZ)Z0 -/
def enr26 : cCn := ((3, 1, ([(0, 0, 0), (1, 0, 1)], [(4294967295, [(1, -4294967296), (2, 1)]), (4294967328, [(1, -4294967296), (2, -1)])], [(0, 12, 12, false, (0, []))], [(0, 13, (0, 0, (0, [(2, 1)])))]), [(1, 0, (0, [])), (0, 0, (0, [(0, 1)])), (0, 0, (0, [(1, 1)]))]), (3, 1, ([], [], [], []), [(0, 0, (0, [(1, 1)]))]), [(41, 0, 0)])
theorem ewr26 : cwCn enr26 = true := by decide +kernel
theorem eor26 : cOk cT0 ey195 3 1 0 0 enr26 := c_ok (d := 0) (Γ := eg195) (Ga := []) (cr := []) (code := ek195) (ps := []) (fuel := 700) emp195.1.2.2.2.2.2.1 ec195 (cCal_nil) (by decide +kernel)
/-- SpanCopierModel.put(IZ)Z2 -/
def enr27 : cCn := ((3, 1, ([(0, 2, 2), (1, 0, 1)], [(4294967295, [(1, -4294967296), (2, 1)]), (4294967305, [(1, -4294967296), (2, -1)])], [(0, 12, 12, false, (0, []))], [(0, 13, (0, 0, (0, [(2, 1)])))]), [(1, 0, (0, [])), (0, 0, (0, [(0, 1)])), (0, 0, (0, [(1, 1)]))]), (3, 1, ([], [], [], []), [(0, 0, (0, [(1, 1)]))]), [(41, 2, 2)])
theorem ewr27 : cwCn enr27 = true := by decide +kernel
theorem eor27 : cOk cT0 ey195 3 1 0 0 enr27 := c_ok (d := 0) (Γ := eg195) (Ga := []) (cr := []) (code := ek195) (ps := []) (fuel := 700) emp195.1.2.2.2.2.2.1 ec195 (cCal_nil) (by decide +kernel)
/-- SpanCopierModel.put(IZ)Z5 -/
def enr28 : cCn := ((3, 1, ([(0, 5, 5), (1, 0, 1)], [(4294967295, [(1, -4294967296), (2, 1)]), (4294967356, [(1, -4294967296), (2, -1)])], [(0, 12, 12, false, (0, []))], [(0, 13, (0, 0, (0, [(2, 1)])))]), [(1, 0, (0, [])), (0, 0, (0, [(0, 1)])), (0, 0, (0, [(1, 1)]))]), (3, 1, ([], [], [], []), [(0, 0, (0, [(1, 1)]))]), [(41, 5, 5)])
theorem ewr28 : cwCn enr28 = true := by decide +kernel
theorem eor28 : cOk cT0 ey195 3 1 0 0 enr28 := c_ok (d := 0) (Γ := eg195) (Ga := []) (cr := []) (code := ek195) (ps := []) (fuel := 700) emp195.1.2.2.2.2.2.1 ec195 (cCal_nil) (by decide +kernel)
/-- SpanCopierModel.put(IZ)Z3 -/
def enr29 : cCn := ((2, 1, ([(0, 3, 4), (1, 0, 1)], [], [(0, 12, 12, false, (0, []))], []), [(1, 0, (0, [])), (0, 0, (0, [(0, 1)])), (0, 0, (0, [(1, 1)]))]), (2, 1, ([], [], [], []), [(0, 0, (0, [(1, 1)]))]), [(41, 3, 4)])
theorem ewr29 : cwCn enr29 = true := by decide +kernel
theorem eor29 : cOk cT0 ey195 3 1 0 0 enr29 := c_ok (d := 0) (Γ := eg195) (Ga := []) (cr := []) (code := ek195) (ps := []) (fuel := 700) emp195.1.2.2.2.2.2.1 ec195 (cCal_nil) (by decide +kernel)
/-- SpanCopierModel.put(IZ)Z6 -/
def enr30 : cCn := ((2, 1, ([(0, 6, 6), (1, 0, 1)], [], [(0, 12, 12, false, (0, []))], []), [(1, 0, (0, [])), (0, 0, (0, [(0, 1)])), (0, 0, (0, [(1, 1)]))]), (2, 1, ([], [], [], []), [(0, 0, (0, [(1, 1)]))]), [(41, 6, 6)])
theorem ewr30 : cwCn enr30 = true := by decide +kernel
theorem eor30 : cOk cT0 ey195 3 1 0 0 enr30 := c_ok (d := 0) (Γ := eg195) (Ga := []) (cr := []) (code := ek195) (ps := []) (fuel := 700) emp195.1.2.2.2.2.2.1 ec195 (cCal_nil) (by decide +kernel)
/-- SpanCopierModel.put(IZ)Z16 -/
def enr31 : cCn := ((2, 1, ([(0, 16, 21), (1, 0, 1)], [], [(0, 12, 12, false, (0, []))], []), [(1, 0, (0, [])), (0, 0, (0, [(0, 1)])), (0, 0, (0, [(1, 1)]))]), (2, 1, ([], [], [], []), [(0, 0, (0, [(1, 1)]))]), [(41, 16, 21)])
theorem ewr31 : cwCn enr31 = true := by decide +kernel
theorem eor31 : cOk cT0 ey195 3 1 0 0 enr31 := c_ok (d := 0) (Γ := eg195) (Ga := []) (cr := []) (code := ek195) (ps := []) (fuel := 700) emp195.1.2.2.2.2.2.1 ec195 (cCal_nil) (by decide +kernel)
/-- SpanCopierModel.isAnyName()Z -/
def enr33 : cCn := ((0, 1, ([], [], [(0, 12, 12, false, (0, []))], []), [(1, 0, (0, []))]), (2, 1, ([(0, 0, 1)], [(4294967296, [(0, -4294967296), (1, 1)]), (4294967305, [(0, -4294967296), (1, -1)])], [], [(0, 13, (0, 0, (0, [(1, 1)])))]), [(0, 0, (0, [(0, 1)]))]), [(12, 10, 11), (12, 13, 13)])
theorem ewr33 : cwCn enr33 = true := by decide +kernel
theorem eor33 : cOk cT0 ey197 1 4 0 0 enr33 := c_ok (d := 3) (Γ := eg197) (Ga := [[(0, 0, enr19)], [(0, 0, enr18)], [(0, 0, enr25)]]) (cr := []) (code := ek197) (ps := []) (fuel := 700) emp197.1.2.2.2.2.2.1 ec197 (cCal_cons (cAl_cons (eor19.mono (by decide)) ewr19 (cAl_nil)) (cCal_cons (cAl_cons (eor18.mono (by decide)) ewr18 (cAl_nil)) (cCal_cons (cAl_cons (eor25.mono (by decide)) ewr25 (cAl_nil)) (cCal_nil)))) (by decide +kernel)
/-- SpanCopierModel.keep(IZ)Z -/
def enr40 : cCn := ((2, 1, ([(0, 0, 119), (1, 0, 1)], [], [(0, 12, 12, false, (0, []))], []), [(1, 0, (0, [])), (0, 0, (0, [(0, 1)])), (0, 0, (0, [(1, 1)]))]), (2, 1, ([], [], [], []), [(0, 0, (0, [(1, 1)]))]), [(41, 0, 119)])
theorem ewr40 : cwCn enr40 = true := by decide +kernel
theorem eor40 : cOk cT0 ey280 3 1 0 0 enr40 := c_ok (d := 0) (Γ := eg280) (Ga := []) (cr := []) (code := ek280) (ps := []) (fuel := 700) emp280.1.2.2.2.2.2.1 ec280 (cCal_nil) (by decide +kernel)
/-- SpanCopierModel.atPlace(II)I -/
def enr42 : cCn := ((2, 0, ([], [], [], []), [(0, 0, (0, [(0, 1)])), (0, 0, (0, [(1, 1)]))]), (3, 0, ([], [], [], []), [(0, 0, (0, [(2, 1)]))]), [])
theorem ewr42 : cwCn enr42 = true := by decide +kernel
theorem eor42 : cOk cT0 ey206 2 1 0 0 enr42 := c_ok (d := 0) (Γ := eg206) (Ga := []) (cr := []) (code := ek206) (ps := []) (fuel := 700) emp206.1.2.2.2.2.2.1 ec206 (cCal_nil) (by decide +kernel)
/-- SpanCopierModel.fileSum()I -/
def enr43 : cCn := ((0, 1, ([], [], [(0, 12, 12, false, (0, []))], []), [(1, 0, (0, []))]), (1, 1, ([], [], [], []), [(0, 0, (0, [(0, 1)]))]), [])
theorem ewr43 : cwCn enr43 = true := by decide +kernel
theorem eor43 : cOk cT0 ey207 3 2 0 0 enr43 := c_ok (d := 1) (Γ := eg207) (Ga := [[(0, 0, enr42)]]) (cr := []) (code := ek207) (ps := [(4, (2, 1, ([(1, 0, 240)], [], [(0, 12, 12, false, (0, []))], []), 0, 0), [(1, 0, (0, [])), (0, 0, (0, [(0, 1)])), (0, 0, (0, [(1, 1)]))], [], [(240, [(1, -1)])], [(1, 0, (0, []))])]) (fuel := 700) emp207.1.2.2.2.2.2.1 ec207 (cCal_cons (cAl_cons (eor42.mono (by decide)) ewr42 (cAl_nil)) (cCal_nil)) (by decide +kernel)
/-- SpanCopierModel.takenSum()I -/
def enr44 : cCn := ((0, 1, ([], [], [(0, 12, 12, false, (0, []))], []), [(1, 0, (0, []))]), (1, 1, ([], [], [], []), [(0, 0, (0, [(0, 1)]))]), [])
theorem ewr44 : cwCn enr44 = true := by decide +kernel
theorem eor44 : cOk cT0 ey208 3 2 0 0 enr44 := c_ok (d := 1) (Γ := eg208) (Ga := [[(0, 0, enr42)]]) (cr := []) (code := ek208) (ps := [(4, (2, 1, ([(1, 0, 240)], [], [(0, 12, 12, false, (0, []))], []), 0, 0), [(1, 0, (0, [])), (0, 0, (0, [(0, 1)])), (0, 0, (0, [(1, 1)]))], [], [(240, [(1, -1)])], [(1, 0, (0, []))])]) (fuel := 700) emp208.1.2.2.2.2.2.1 ec208 (cCal_cons (cAl_cons (eor42.mono (by decide)) ewr42 (cAl_nil)) (cCal_nil)) (by decide +kernel)
/-- SpanCopierModel.isGap(I)Z -/
def enr45 : cCn := ((1, 1, ([(0, 0, 2147483647)], [], [(0, 12, 12, false, (0, []))], []), [(1, 0, (0, [])), (0, 0, (0, [(0, 1)]))]), (2, 1, ([(1, 0, 1)], [], [], []), [(0, 0, (0, [(1, 1)]))]), [])
theorem ewr45 : cwCn enr45 = true := by decide +kernel
theorem eor45 : cOk cT0 ey209 2 1 0 0 enr45 := c_ok (d := 0) (Γ := eg209) (Ga := []) (cr := []) (code := ek209) (ps := []) (fuel := 700) emp209.1.2.2.2.2.2.1 ec209 (cCal_nil) (by decide +kernel)
/-- SpanCopierModel.isMarked(II)Z -/
def enr46 : cCn := ((2, 1, ([(1, 0, 2147483647)], [], [(0, 12, 12, false, (0, []))], []), [(1, 0, (0, [])), (0, 0, (0, [(0, 1)])), (0, 0, (0, [(1, 1)]))]), (3, 1, ([(2, 0, 1)], [], [], []), [(0, 0, (0, [(2, 1)]))]), [])
theorem ewr46 : cwCn enr46 = true := by decide +kernel
theorem eor46 : cOk cT0 ey210 3 2 0 0 enr46 := c_ok (d := 1) (Γ := eg210) (Ga := [[(0, 0, enr45)]]) (cr := []) (code := ek210) (ps := []) (fuel := 700) emp210.1.2.2.2.2.2.1 ec210 (cCal_cons (cAl_cons (eor45.mono (by decide)) ewr45 (cAl_nil)) (cCal_nil)) (by decide +kernel)
/-- SpanCopierModel.nextMark(IIZ)I -/
def enr47 : cCn := ((3, 1, ([(1, 0, 240), (2, 0, 1)], [], [(0, 12, 12, false, (0, []))], []), [(1, 0, (0, [])), (0, 0, (0, [(0, 1)])), (0, 0, (0, [(1, 1)])), (0, 0, (0, [(2, 1)]))]), (4, 1, ([(3, 0, 240)], [(0, [(1, -1), (3, 1)])], [], []), [(0, 0, (0, [(3, 1)]))]), [])
theorem ewr47 : cwCn enr47 = true := by decide +kernel
theorem eor47 : cOk cT0 ey211 5 3 0 0 enr47 := c_ok (d := 2) (Γ := eg211) (Ga := [[(0, 0, enr46)]]) (cr := []) (code := ek211) (ps := [(3, (4, 1, ([(1, 0, 240), (2, 0, 1), (3, 0, 240)], [(0, [(1, -1), (3, 1)])], [(0, 12, 12, false, (0, []))], []), 0, 0), [(1, 0, (0, [])), (0, 0, (0, [(0, 1)])), (0, 0, (0, [(1, 1)])), (0, 0, (0, [(2, 1)])), (0, 0, (0, [(3, 1)]))], [], [(240, [(3, -1)]), (0, [(0, 1)]), (0, [(1, 1)]), (0, [(2, 1)])], [(1, 0, (0, []))])]) (fuel := 700) emp211.1.2.2.2.2.2.1 ec211 (cCal_cons (cAl_cons (eor46.mono (by decide)) ewr46 (cAl_nil)) (cCal_nil)) (by decide +kernel)
/-- SpanCopierModel.unitAt(I)I -/
def enr49 : cCn := ((1, 1, ([(0, 0, 40)], [], [(0, 12, 12, false, (0, []))], []), [(1, 0, (0, [])), (0, 0, (0, [(0, 1)]))]), (1, 1, ([], [], [], []), [(0, 0, (1504, [(0, 38)]))]), [])
theorem ewr49 : cwCn enr49 = true := by decide +kernel
theorem eor49 : cOk cT0 ey214 2 1 0 0 enr49 := c_ok (d := 0) (Γ := eg214) (Ga := []) (cr := []) (code := ek214) (ps := []) (fuel := 700) emp214.1.2.2.2.2.2.1 ec214 (cCal_nil) (by decide +kernel)
/-- SpanCopierModel.isUnit(I)Z -/
def enr50 : cCn := ((1, 1, ([], [], [(0, 12, 12, false, (0, []))], []), [(1, 0, (0, [])), (0, 0, (0, [(0, 1)]))]), (3, 2, ([(1, 0, 1), (2, 0, 40)], [(4294967296, [(0, 1), (1, -4294967296)]), (4294967295, [(0, -1), (1, -4294967296), (2, 1)])], [(1, 41, 61, false, (3266, []))], [(0, 14, (1, 1, (0, []))), (1, 45, (0, 0, (0, [(2, 1)])))]), [(0, 0, (0, [(1, 1)]))]), [])
theorem ewr50 : cwCn enr50 = true := by decide +kernel
theorem eor50 : cOk cT0 ey215 2 2 0 0 enr50 := c_ok (d := 1) (Γ := eg215) (Ga := [[(0, 0, enr8)]]) (cr := []) (code := ek215) (ps := []) (fuel := 700) emp215.1.2.2.2.2.2.1 ec215 (cCal_cons (cAl_cons (eor8.mono (by decide)) ewr8 (cAl_nil)) (cCal_nil)) (by decide +kernel)
/-- SpanCopierModel.isBusy()Z -/
def enr54 : cCn := ((0, 1, ([], [], [(0, 12, 12, false, (0, []))], []), [(1, 0, (0, []))]), (1, 1, ([(0, 0, 1)], [], [], []), [(0, 0, (0, [(0, 1)]))]), [])
theorem ewr54 : cwCn enr54 = true := by decide +kernel
theorem eor54 : cOk cT0 ey225 1 1 0 0 enr54 := c_ok (d := 0) (Γ := eg225) (Ga := []) (cr := []) (code := ek225) (ps := []) (fuel := 700) emp225.1.2.2.2.2.2.1 ec225 (cCal_nil) (by decide +kernel)
/-- SpanCopierModel.nakComes()V -/
def enr55 : cCn := ((1, 2, ([(0, 2, 2)], [], [(0, 12, 12, false, (0, [])), (1, 41, 70, false, (38, []))], [(0, 26, (1, 1, (0, []))), (1, 0, (0, 0, (0, [(0, 1)])))]), [(1, 0, (0, []))]), (1, 2, ([], [], [], []), []), [(41, 1263, 1503)])
theorem ewr55 : cwCn enr55 = true := by decide +kernel
theorem eor55 : cOk cT0 ey226 3 2 0 0 enr55 := c_ok (d := 1) (Γ := eg226) (Ga := [[(0, 0, enr54)]]) (cr := []) (code := ek226) (ps := [(10, (3, 2, ([(0, 2, 2), (1, 2, 2), (2, 0, 17)], [], [(0, 12, 12, false, (0, [])), (1, 41, 70, false, (38, []))], [(0, 26, (1, 1, (0, []))), (1, 0, (0, 0, (0, [(1, 1)])))]), 0, 0), [(1, 0, (0, [])), (0, 0, (0, [(2, 1)])), (4, 0, (0, []))], [], [(17500, [(2, -1000)]), (0, [(0, 1)])], [(1, 0, (0, [])), (1, 1, (0, []))]),
  (30, (4, 2, ([(0, 2, 2), (1, 2, 2), (2, 0, 15), (3, -1, 240)], [], [(0, 12, 12, false, (0, [])), (1, 41, 70, false, (38, []))], [(0, 26, (1, 1, (0, []))), (1, 0, (0, 0, (0, [(1, 1)])))]), 0, 0), [(1, 0, (0, [])), (0, 0, (0, [(2, 1)])), (0, 0, (0, [(3, 1)]))], [], [(17240, [(2, -1000), (3, -1)]), (0, [(0, 1)])], [(1, 0, (0, [])), (1, 1, (0, []))])]) (fuel := 700) emp226.1.2.2.2.2.2.1 ec226 (cCal_cons (cAl_cons (eor54.mono (by decide)) ewr54 (cAl_nil)) (cCal_nil)) (by decide +kernel)
/-- SpanCopierModel.goesToTaker(I)Z -/
def enr57 : cCn := ((1, 0, ([], [], [], []), [(0, 0, (0, [(0, 1)]))]), (2, 0, ([(1, 0, 1)], [], [], []), [(0, 0, (0, [(1, 1)]))]), [])
theorem ewr57 : cwCn enr57 = true := by decide +kernel
theorem eor57 : cOk cT0 ey222 1 1 0 0 enr57 := c_ok (d := 0) (Γ := eg222) (Ga := []) (cr := []) (code := ek222) (ps := []) (fuel := 700) emp222.1.2.2.2.2.2.1 ec222 (cCal_nil) (by decide +kernel)
