/-- SpanCopierModel.refuse()I -/
def enr0 : cCn := ((0, 1, ([], [], [(0, 12, 12, false, (0, []))], []), [(1, 0, (0, []))]), (1, 1, ([], [], [], []), [(0, 0, (0, [(0, 1)]))]), [(12, 0, 0)])
theorem ewr0 : cwCn enr0 = true := by decide +kernel
theorem eor0 : cOk cT0 ey169 1 1 0 0 enr0 := c_ok (d := 0) (Γ := eg169) (Ga := []) (cr := []) (code := ek169) (ps := []) (fuel := 700) emp169.1.2.2.2.2.2.1 ec169 (cCal_nil) (by decide +kernel)
/-- SpanCopierModel.take()I -/
def enr1 : cCn := ((0, 1, ([], [], [(0, 12, 12, false, (0, []))], []), [(1, 0, (0, []))]), (1, 1, ([(0, 0, 940)], [], [], []), [(0, 0, (0, [(0, 1)]))]), [(12, 2, 2)])
theorem ewr1 : cwCn enr1 = true := by decide +kernel
theorem eor1 : cOk cT0 ey173 2 1 0 0 enr1 := c_ok (d := 0) (Γ := eg173) (Ga := []) (cr := []) (code := ek173) (ps := []) (fuel := 700) emp173.1.2.2.2.2.2.1 ec173 (cCal_nil) (by decide +kernel)
/-- SpanCopierModel.has(II)Z -/
def enr2 : cCn := ((2, 0, ([], [], [], []), [(0, 0, (0, [(0, 1)])), (0, 0, (0, [(1, 1)]))]), (3, 0, ([(2, 0, 1)], [], [], []), [(0, 0, (0, [(2, 1)]))]), [])
theorem ewr2 : cwCn enr2 = true := by decide +kernel
theorem eor2 : cOk cT0 ey175 2 1 0 0 enr2 := c_ok (d := 0) (Γ := eg175) (Ga := []) (cr := []) (code := ek175) (ps := []) (fuel := 700) emp175.1.2.2.2.2.2.1 ec175 (cCal_nil) (by decide +kernel)
/-- SpanCopierModel.isDigit(I)Z -/
def enr3 : cCn := ((1, 0, ([], [], [], []), [(0, 0, (0, [(0, 1)]))]), (2, 0, ([(1, 0, 1)], [], [], []), [(0, 0, (0, [(1, 1)]))]), [])
theorem ewr3 : cwCn enr3 = true := by decide +kernel
theorem eor3 : cOk cT0 ey178 1 1 0 0 enr3 := c_ok (d := 0) (Γ := eg178) (Ga := []) (cr := []) (code := ek178) (ps := []) (fuel := 700) emp178.1.2.2.2.2.2.1 ec178 (cCal_nil) (by decide +kernel)
/-- SpanCopierModel.isLetter(I)Z -/
def enr4 : cCn := ((1, 0, ([], [], [], []), [(0, 0, (0, [(0, 1)]))]), (2, 0, ([(1, 0, 1)], [], [], []), [(0, 0, (0, [(1, 1)]))]), [])
theorem ewr4 : cwCn enr4 = true := by decide +kernel
theorem eor4 : cOk cT0 ey179 1 1 0 0 enr4 := c_ok (d := 0) (Γ := eg179) (Ga := []) (cr := []) (code := ek179) (ps := []) (fuel := 700) emp179.1.2.2.2.2.2.1 ec179 (cCal_nil) (by decide +kernel)
/-- SpanCopierModel.tapeAt(I)I -/
def enr5 : cCn := ((1, 1, ([(0, 0, 940)], [], [(0, 12, 12, false, (0, []))], []), [(1, 0, (0, [])), (0, 0, (0, [(0, 1)]))]), (2, 1, ([], [], [], []), [(0, 0, (0, [(1, 1)]))]), [])
theorem ewr5 : cwCn enr5 = true := by decide +kernel
theorem eor5 : cOk cT0 ey177 2 1 0 0 enr5 := c_ok (d := 0) (Γ := eg177) (Ga := []) (cr := []) (code := ek177) (ps := []) (fuel := 700) emp177.1.2.2.2.2.2.1 ec177 (cCal_nil) (by decide +kernel)
/-- SpanCopierModel.least(II)I+ -/
def enr6 : cCn := ((2, 0, ([(0, 0, 2147483647), (1, 0, 2147483647)], [], [], []), [(0, 0, (0, [(0, 1)])), (0, 0, (0, [(1, 1)]))]), (3, 0, ([(2, 0, 2147483647)], [(0, [(0, 1), (2, -1)]), (0, [(1, 1), (2, -1)])], [], []), [(0, 0, (0, [(2, 1)]))]), [])
theorem ewr6 : cwCn enr6 = true := by decide +kernel
theorem eor6 : cOk cT0 ey176 2 1 0 0 enr6 := c_ok (d := 0) (Γ := eg176) (Ga := []) (cr := []) (code := ek176) (ps := []) (fuel := 700) emp176.1.2.2.2.2.2.1 ec176 (cCal_nil) (by decide +kernel)
/-- SpanCopierModel.least(II)I -/
def enr7 : cCn := ((2, 0, ([], [], [], []), [(0, 0, (0, [(0, 1)])), (0, 0, (0, [(1, 1)]))]), (3, 0, ([], [(0, [(0, 1), (2, -1)]), (0, [(1, 1), (2, -1)])], [], []), [(0, 0, (0, [(2, 1)]))]), [])
theorem ewr7 : cwCn enr7 = true := by decide +kernel
theorem eor7 : cOk cT0 ey176 2 1 0 0 enr7 := c_ok (d := 0) (Γ := eg176) (Ga := []) (cr := []) (code := ek176) (ps := []) (fuel := 700) emp176.1.2.2.2.2.2.1 ec176 (cCal_nil) (by decide +kernel)
/-- SpanCopierModel.isIn(III)Z -/
def enr8 : cCn := ((3, 0, ([], [], [], []), [(0, 0, (0, [(0, 1)])), (0, 0, (0, [(1, 1)])), (0, 0, (0, [(2, 1)]))]), (4, 0, ([(3, 0, 1)], [(4294967296, [(0, 1), (1, -1), (3, -4294967296)]), (4294967296, [(0, -1), (2, 1), (3, -4294967296)])], [], []), [(0, 0, (0, [(3, 1)]))]), [])
theorem ewr8 : cwCn enr8 = true := by decide +kernel
theorem eor8 : cOk cT0 ey174 3 1 0 0 enr8 := c_ok (d := 0) (Γ := eg174) (Ga := []) (cr := []) (code := ek174) (ps := []) (fuel := 700) emp174.1.2.2.2.2.2.1 ec174 (cCal_nil) (by decide +kernel)
/-- SpanCopierModel.come(I)V -/
def enr9 : cCn := ((2, 1, ([(1, 0, 936)], [], [(0, 12, 12, false, (0, []))], [(0, 2, (0, 0, (0, [(1, 1)])))]), [(1, 0, (0, [])), (0, 0, (0, [(0, 1)]))]), (2, 1, ([], [], [], [(0, 2, (0, 0, (4, [(1, 1)])))]), []), [(12, 2, 2), (41, 0, 939)])
theorem ewr9 : cwCn enr9 = true := by decide +kernel
theorem eor9 : cOk cT0 ey170 3 1 0 0 enr9 := c_ok (d := 0) (Γ := eg170) (Ga := []) (cr := []) (code := ek170) (ps := []) (fuel := 700) emp170.1.2.2.2.2.2.1 ec170 (cCal_nil) (by decide +kernel)
/-- SpanCopierModel.feed(IIIII)I -/
def enr10 : cCn := ((5, 1, ([], [], [(0, 12, 12, false, (0, []))], []), [(1, 0, (0, [])), (0, 0, (0, [(0, 1)])), (0, 0, (0, [(1, 1)])), (0, 0, (0, [(2, 1)])), (0, 0, (0, [(3, 1)])), (0, 0, (0, [(4, 1)]))]), (6, 1, ([], [], [], []), [(0, 0, (0, [(5, 1)]))]), [(12, 0, 0), (12, 2, 2), (41, 0, 939)])
theorem ewr10 : cwCn enr10 = true := by decide +kernel
theorem eor10 : cOk cT0 ey171 6 2 0 0 enr10 := c_ok (d := 1) (Γ := eg171) (Ga := [[(0, 0, enr9)]]) (cr := []) (code := ek171) (ps := []) (fuel := 700) emp171.1.2.2.2.2.2.1 ec171 (cCal_cons (cAl_cons (eor9.mono (by decide)) ewr9 (cAl_nil)) (cCal_nil)) (by decide +kernel)
/-- SpanCopierModel.end(I)Z -/
def enr11 : cCn := ((1, 1, ([], [], [(0, 12, 12, false, (0, []))], []), [(1, 0, (0, [])), (0, 0, (0, [(0, 1)]))]), (2, 1, ([(1, 0, 1)], [], [], []), [(0, 0, (0, [(1, 1)]))]), [(12, 0, 0), (12, 2, 2)])
theorem ewr11 : cwCn enr11 = true := by decide +kernel
theorem eor11 : cOk cT0 ey172 2 1 0 0 enr11 := c_ok (d := 0) (Γ := eg172) (Ga := []) (cr := []) (code := ek172) (ps := []) (fuel := 700) emp172.1.2.2.2.2.2.1 ec172 (cCal_nil) (by decide +kernel)
/-- SpanCopierModel.fault()I -/
def enr12 : cCn := ((0, 1, ([], [], [(0, 12, 12, false, (0, []))], []), [(1, 0, (0, []))]), (1, 1, ([], [], [], []), [(0, 0, (0, [(0, 1)]))]), [(12, 0, 0)])
theorem ewr12 : cwCn enr12 = true := by decide +kernel
theorem eor12 : cOk cT0 ey205 1 1 0 0 enr12 := c_ok (d := 0) (Γ := eg205) (Ga := []) (cr := []) (code := ek205) (ps := []) (fuel := 700) emp205.1.2.2.2.2.2.1 ec205 (cCal_nil) (by decide +kernel)
/-- SpanCopierModel.spelt(IIIIII)J -/
def enr13 : cCn := ((6, 0, ([], [], [], []), [(0, 0, (0, [(0, 1)])), (0, 0, (0, [(1, 1)])), (0, 0, (0, [(2, 1)])), (0, 0, (0, [(3, 1)])), (0, 0, (0, [(4, 1)])), (0, 0, (0, [(5, 1)]))]), (6, 0, ([], [], [], []), [(3, 0, (0, []))]), [])
theorem ewr13 : cwCn enr13 = true := by decide +kernel
theorem eor13 : cOk cT0 ey181 8 1 0 0 enr13 := c_ok (d := 0) (Γ := eg181) (Ga := []) (cr := []) (code := ek181) (ps := []) (fuel := 700) emp181.1.2.2.2.2.2.1 ec181 (cCal_nil) (by decide +kernel)
/-- SpanCopierModel.wordOf(I)J -/
def enr14 : cCn := ((1, 0, ([], [], [], []), [(0, 0, (0, [(0, 1)]))]), (1, 0, ([], [], [], []), [(3, 0, (0, []))]), [])
theorem ewr14 : cwCn enr14 = true := by decide +kernel
theorem eor14 : cOk cT0 ey182 1 2 0 0 enr14 := c_ok (d := 1) (Γ := eg182) (Ga := [[(0, 0, enr13)]]) (cr := []) (code := ek182) (ps := []) (fuel := 700) emp182.1.2.2.2.2.2.1 ec182 (cCal_cons (cAl_cons (eor13.mono (by decide)) ewr13 (cAl_nil)) (cCal_nil)) (by decide +kernel)
/-- SpanCopierModel.isWord(I)Z -/
def enr15 : cCn := ((1, 1, ([], [], [(0, 12, 12, false, (0, []))], []), [(1, 0, (0, [])), (0, 0, (0, [(0, 1)]))]), (2, 1, ([(1, 0, 1)], [], [], []), [(0, 0, (0, [(1, 1)]))]), [])
theorem ewr15 : cwCn enr15 = true := by decide +kernel
theorem eor15 : cOk cT0 ey183 2 3 0 0 enr15 := c_ok (d := 2) (Γ := eg183) (Ga := [[(0, 0, enr14)]]) (cr := []) (code := ek183) (ps := []) (fuel := 700) emp183.1.2.2.2.2.2.1 ec183 (cCal_cons (cAl_cons (eor14.mono (by decide)) ewr14 (cAl_nil)) (cCal_nil)) (by decide +kernel)
/-- SpanCopierModel.isSign(I)Zk -/
def enr16 : cCn := ((2, 1, ([(1, 0, 4)], [], [(0, 12, 12, false, (0, []))], [(0, 7, (0, 0, (0, [(1, 1)])))]), [(1, 0, (0, [])), (0, 0, (0, [(0, 1)]))]), (3, 1, ([(2, 0, 1)], [(4294967292, [(1, 1), (2, -4294967296)])], [], []), [(0, 0, (0, [(2, 1)]))]), [])
theorem ewr16 : cwCn enr16 = true := by decide +kernel
theorem eor16 : cOk cT0 ey184 2 1 0 0 enr16 := c_ok (d := 0) (Γ := eg184) (Ga := []) (cr := []) (code := ek184) (ps := []) (fuel := 700) emp184.1.2.2.2.2.2.1 ec184 (cCal_nil) (by decide +kernel)
/-- SpanCopierModel.isSign(I)Z -/
def enr17 : cCn := ((1, 1, ([], [], [(0, 12, 12, false, (0, []))], []), [(1, 0, (0, [])), (0, 0, (0, [(0, 1)]))]), (2, 1, ([(1, 0, 1)], [], [], []), [(0, 0, (0, [(1, 1)]))]), [])
theorem ewr17 : cwCn enr17 = true := by decide +kernel
theorem eor17 : cOk cT0 ey184 2 1 0 0 enr17 := c_ok (d := 0) (Γ := eg184) (Ga := []) (cr := []) (code := ek184) (ps := []) (fuel := 700) emp184.1.2.2.2.2.2.1 ec184 (cCal_nil) (by decide +kernel)
/-- SpanCopierModel.bad(I)Z -/
def enr18 : cCn := ((1, 1, ([], [], [(0, 12, 12, false, (0, []))], []), [(1, 0, (0, [])), (0, 0, (0, [(0, 1)]))]), (2, 1, ([(1, 0, 0)], [], [], []), [(0, 0, (0, [(1, 1)]))]), [(12, 10, 11)])
theorem ewr18 : cwCn enr18 = true := by decide +kernel
theorem eor18 : cOk cT0 ey186 2 1 0 0 enr18 := c_ok (d := 0) (Γ := eg186) (Ga := []) (cr := []) (code := ek186) (ps := []) (fuel := 700) emp186.1.2.2.2.2.2.1 ec186 (cCal_nil) (by decide +kernel)
/-- SpanCopierModel.isName()Z -/
def enr19 : cCn := ((0, 1, ([], [], [(0, 12, 12, false, (0, []))], []), [(1, 0, (0, []))]), (1, 1, ([(0, 0, 1)], [], [], []), [(0, 0, (0, [(0, 1)]))]), [])
theorem ewr19 : cwCn enr19 = true := by decide +kernel
theorem eor19 : cOk cT0 ey185 2 3 0 0 enr19 := c_ok (d := 2) (Γ := eg185) (Ga := [[(0, 0, enr14)]]) (cr := []) (code := ek185) (ps := [(12, (1, 1, ([(0, 0, 37)], [], [(0, 12, 12, false, (0, []))], []), 0, 0), [(1, 0, (0, [])), (0, 0, (0, [(0, 1)]))], [], [(37, [(0, -1)])], [(1, 0, (0, []))])]) (fuel := 700) emp185.1.2.2.2.2.2.1 ec185 (cCal_cons (cAl_cons (eor14.mono (by decide)) ewr14 (cAl_nil)) (cCal_nil)) (by decide +kernel)
/-- SpanCopierModel.begin(I)V -/
def enr20 : cCn := ((1, 1, ([], [], [(0, 12, 12, false, (0, []))], []), [(1, 0, (0, [])), (0, 0, (0, [(0, 1)]))]), (3, 1, ([(1, 0, 940), (2, 0, 4)], [], [], [(0, 5, (0, 0, (0, [(1, 1)]))), (0, 7, (0, 0, (0, [(2, 1)])))]), []), [(12, 0, 0), (12, 2, 10)])
theorem ewr20 : cwCn enr20 = true := by decide +kernel
theorem eor20 : cOk cT0 ey189 2 5 0 0 enr20 := c_ok (d := 4) (Γ := eg189) (Ga := [[(0, 0, enr1)], [(0, 0, enx0), (0, 0, enx1)]]) (cr := []) (code := ek189) (ps := []) (fuel := 700) emp189.1.2.2.2.2.2.1 ec189 (cCal_cons (cAl_cons (eor1.mono (by decide)) ewr1 (cAl_nil)) (cCal_cons (cAl_cons (eox0.mono (by decide)) ewx0 (cAl_cons (eox1.mono (by decide)) ewx1 (cAl_nil))) (cCal_nil))) (by decide +kernel)
/-- SpanCopierModel.readNumber(II)Z -/
def enr21 : cCn := ((3, 1, ([(2, 0, 940)], [], [(0, 12, 12, false, (0, []))], [(0, 5, (0, 0, (0, [(2, 1)])))]), [(1, 0, (0, [])), (0, 0, (0, [(0, 1)])), (0, 0, (0, [(1, 1)]))]), (7, 1, ([(3, 0, 1), (4, 0, 940), (5, 0, 4)], [(0, [(2, -3), (4, 3)]), (4294967297, [(2, -3), (3, -4294967296), (4, 3), (5, -1)]), (4294967296, [(0, -1), (3, -4294967296), (6, 1)]), (4294967296, [(1, 1), (3, -4294967296), (6, -1)])], [], [(0, 5, (0, 0, (0, [(4, 1)]))), (0, 7, (0, 0, (0, [(5, 1)]))), (0, 13, (0, 0, (0, [(6, 1)])))]), [(0, 0, (0, [(3, 1)]))]), [(12, 5, 11), (12, 13, 13)])
theorem ewr21 : cwCn enr21 = true := by decide +kernel
theorem eor21 : cOk cT0 ey187 3 5 0 0 enr21 := c_ok (d := 4) (Γ := eg187) (Ga := [[(0, 0, enr18)], [(0, 0, enr8)], [(0, 0, enx0), (0, 0, enx1)]]) (cr := []) (code := ek187) (ps := []) (fuel := 700) emp187.1.2.2.2.2.2.1 ec187 (cCal_cons (cAl_cons (eor18.mono (by decide)) ewr18 (cAl_nil)) (cCal_cons (cAl_cons (eor8.mono (by decide)) ewr8 (cAl_nil)) (cCal_cons (cAl_cons (eox0.mono (by decide)) ewx0 (cAl_cons (eox1.mono (by decide)) ewx1 (cAl_nil))) (cCal_nil)))) (by decide +kernel)
/-- SpanCopierModel.readNumber(II)Z- -/
def enr22 : cCn := ((2, 1, ([], [], [(0, 12, 12, false, (0, []))], []), [(1, 0, (0, [])), (0, 0, (0, [(0, 1)])), (0, 0, (0, [(1, 1)]))]), (4, 1, ([(2, 0, 1)], [(4294967296, [(0, -1), (2, -4294967296), (3, 1)]), (4294967296, [(1, 1), (2, -4294967296), (3, -1)])], [], [(0, 13, (0, 0, (0, [(3, 1)])))]), [(0, 0, (0, [(2, 1)]))]), [(12, 5, 11), (12, 13, 13)])
theorem ewr22 : cwCn enr22 = true := by decide +kernel
theorem eor22 : cOk cT0 ey187 3 5 0 0 enr22 := c_ok (d := 4) (Γ := eg187) (Ga := [[(0, 0, enr18)], [(0, 0, enr8)], [(0, 0, enx0), (0, 0, enx1)]]) (cr := []) (code := ek187) (ps := []) (fuel := 700) emp187.1.2.2.2.2.2.1 ec187 (cCal_cons (cAl_cons (eor18.mono (by decide)) ewr18 (cAl_nil)) (cCal_cons (cAl_cons (eor8.mono (by decide)) ewr8 (cAl_nil)) (cCal_cons (cAl_cons (eox0.mono (by decide)) ewx0 (cAl_cons (eox1.mono (by decide)) ewx1 (cAl_nil))) (cCal_nil)))) (by decide +kernel)
/-- SpanCopierModel.readEnd()Z -/
def enr23 : cCn := ((2, 1, ([(0, 0, 940), (1, 0, 4)], [], [(0, 12, 12, false, (0, []))], [(0, 5, (0, 0, (0, [(0, 1)]))), (0, 7, (0, 0, (0, [(1, 1)])))]), [(1, 0, (0, []))]), (5, 1, ([(2, 0, 1), (3, 0, 940), (4, 0, 4)], [(0, [(0, -3), (3, 3)]), (4294967297, [(0, -3), (2, -4294967296), (3, 3), (4, -1)]), (4294967292, [(0, -3), (1, 1), (2, -4294967296), (3, 3)])], [], [(0, 5, (0, 0, (0, [(3, 1)]))), (0, 7, (0, 0, (0, [(4, 1)])))]), [(0, 0, (0, [(2, 1)]))]), [(12, 5, 11)])
theorem ewr23 : cwCn enr23 = true := by decide +kernel
theorem eor23 : cOk cT0 ey188 1 5 0 0 enr23 := c_ok (d := 4) (Γ := eg188) (Ga := [[(0, 0, enr16), (0, 0, enr17)], [(0, 0, enr18)], [(0, 0, enx0), (0, 0, enx1)]]) (cr := []) (code := ek188) (ps := []) (fuel := 700) emp188.1.2.2.2.2.2.1 ec188 (cCal_cons (cAl_cons (eor16.mono (by decide)) ewr16 (cAl_cons (eor17.mono (by decide)) ewr17 (cAl_nil))) (cCal_cons (cAl_cons (eor18.mono (by decide)) ewr18 (cAl_nil)) (cCal_cons (cAl_cons (eox0.mono (by decide)) ewx0 (cAl_cons (eox1.mono (by decide)) ewx1 (cAl_nil))) (cCal_nil)))) (by decide +kernel)
/-- SpanCopierModel.readEnd()Z- -/
def enr24 : cCn := ((0, 1, ([], [], [(0, 12, 12, false, (0, []))], []), [(1, 0, (0, []))]), (1, 1, ([(0, 0, 1)], [], [], []), [(0, 0, (0, [(0, 1)]))]), [(12, 5, 11)])
theorem ewr24 : cwCn enr24 = true := by decide +kernel
theorem eor24 : cOk cT0 ey188 1 5 0 0 enr24 := c_ok (d := 4) (Γ := eg188) (Ga := [[(0, 0, enr16), (0, 0, enr17)], [(0, 0, enr18)], [(0, 0, enx0), (0, 0, enx1)]]) (cr := []) (code := ek188) (ps := []) (fuel := 700) emp188.1.2.2.2.2.2.1 ec188 (cCal_cons (cAl_cons (eor16.mono (by decide)) ewr16 (cAl_cons (eor17.mono (by decide)) ewr17 (cAl_nil))) (cCal_cons (cAl_cons (eor18.mono (by decide)) ewr18 (cAl_nil)) (cCal_cons (cAl_cons (eox0.mono (by decide)) ewx0 (cAl_cons (eox1.mono (by decide)) ewx1 (cAl_nil))) (cCal_nil)))) (by decide +kernel)
/-- SpanCopierModel.findIn([JIIJ)I -/
def enr25 : cCn := ((2, 1, ([(0, 0, 0), (1, 0, 10)], [], [(0, 44, 66, false, (10, []))], []), [(1, 0, (0, [])), (0, 0, (0, [(0, 1)])), (0, 0, (0, [(1, 1)])), (3, 0, (0, []))]), (3, 1, ([(2, -1, 9)], [(-1, [(1, 1), (2, -1)])], [], []), [(0, 0, (0, [(2, 1)]))]), [])
theorem ewr25 : cwCn enr25 = true := by decide +kernel
theorem eor25 : cOk cT0 ey194 6 1 0 0 enr25 := c_ok (d := 0) (Γ := eg194) (Ga := []) (cr := []) (code := ek194) (ps := [(3, (3, 1, ([(0, 0, 0), (1, 0, 10), (2, 0, 10)], [], [(0, 44, 66, false, (10, []))], []), 0, 0), [(1, 0, (0, [])), (0, 0, (0, [(0, 1)])), (0, 0, (0, [(1, 1)])), (3, 0, (0, [])), (4, 0, (0, [])), (0, 0, (0, [(2, 1)]))], [], [(10, [(2, -1)]), (0, [(0, 1)]), (0, [(1, 1)])], [(1, 0, (0, []))])]) (fuel := 700) emp194.1.2.2.2.2.2.1 ec194 (cCal_nil) (by decide +kernel)
/-- SpanCopierModel.put(IZ)Z0 -/
def enr26 : cCn := ((3, 1, ([(0, 0, 0), (1, 0, 1)], [(4294967295, [(1, -4294967296), (2, 1)]), (4294967328, [(1, -4294967296), (2, -1)])], [(0, 12, 12, false, (0, []))], [(0, 13, (0, 0, (0, [(2, 1)])))]), [(1, 0, (0, [])), (0, 0, (0, [(0, 1)])), (0, 0, (0, [(1, 1)]))]), (3, 1, ([], [], [], []), [(0, 0, (0, [(1, 1)]))]), [(41, 0, 0)])
theorem ewr26 : cwCn enr26 = true := by decide +kernel
theorem eor26 : cOk cT0 ey195 3 1 0 0 enr26 := c_ok (d := 0) (Γ := eg195) (Ga := []) (cr := []) (code := ek195) (ps := []) (fuel := 700) emp195.1.2.2.2.2.2.1 ec195 (cCal_nil) (by decide +kernel)
/-- SpanCopierModel.put(IZ)Z2 -/
def enr27 : cCn := ((3, 1, ([(0, 2, 2), (1, 0, 1)], [(4294967295, [(1, -4294967296), (2, 1)]), (4294967305, [(1, -4294967296), (2, -1)])], [(0, 12, 12, false, (0, []))], [(0, 13, (0, 0, (0, [(2, 1)])))]), [(1, 0, (0, [])), (0, 0, (0, [(0, 1)])), (0, 0, (0, [(1, 1)]))]), (3, 1, ([], [], [], []), [(0, 0, (0, [(1, 1)]))]), [(41, 2, 2)])
theorem ewr27 : cwCn enr27 = true := by decide +kernel
theorem eor27 : cOk cT0 ey195 3 1 0 0 enr27 := c_ok (d := 0) (Γ := eg195) (Ga := []) (cr := []) (code := ek195) (ps := []) (fuel := 700) emp195.1.2.2.2.2.2.1 ec195 (cCal_nil) (by decide +kernel)
/-- SpanCopierModel.put(IZ)Z5 -/
def enr28 : cCn := ((3, 1, ([(0, 5, 5), (1, 0, 1)], [(4294967295, [(1, -4294967296), (2, 1)]), (4294967356, [(1, -4294967296), (2, -1)])], [(0, 12, 12, false, (0, []))], [(0, 13, (0, 0, (0, [(2, 1)])))]), [(1, 0, (0, [])), (0, 0, (0, [(0, 1)])), (0, 0, (0, [(1, 1)]))]), (3, 1, ([], [], [], []), [(0, 0, (0, [(1, 1)]))]), [(41, 5, 5)])
theorem ewr28 : cwCn enr28 = true := by decide +kernel
theorem eor28 : cOk cT0 ey195 3 1 0 0 enr28 := c_ok (d := 0) (Γ := eg195) (Ga := []) (cr := []) (code := ek195) (ps := []) (fuel := 700) emp195.1.2.2.2.2.2.1 ec195 (cCal_nil) (by decide +kernel)
/-- SpanCopierModel.put(IZ)Z3 -/
def enr29 : cCn := ((2, 1, ([(0, 3, 4), (1, 0, 1)], [], [(0, 12, 12, false, (0, []))], []), [(1, 0, (0, [])), (0, 0, (0, [(0, 1)])), (0, 0, (0, [(1, 1)]))]), (2, 1, ([], [], [], []), [(0, 0, (0, [(1, 1)]))]), [(41, 3, 4)])
theorem ewr29 : cwCn enr29 = true := by decide +kernel
theorem eor29 : cOk cT0 ey195 3 1 0 0 enr29 := c_ok (d := 0) (Γ := eg195) (Ga := []) (cr := []) (code := ek195) (ps := []) (fuel := 700) emp195.1.2.2.2.2.2.1 ec195 (cCal_nil) (by decide +kernel)
/-- SpanCopierModel.put(IZ)Z6 -/
def enr30 : cCn := ((2, 1, ([(0, 6, 6), (1, 0, 1)], [], [(0, 12, 12, false, (0, []))], []), [(1, 0, (0, [])), (0, 0, (0, [(0, 1)])), (0, 0, (0, [(1, 1)]))]), (2, 1, ([], [], [], []), [(0, 0, (0, [(1, 1)]))]), [(41, 6, 6)])
theorem ewr30 : cwCn enr30 = true := by decide +kernel
theorem eor30 : cOk cT0 ey195 3 1 0 0 enr30 := c_ok (d := 0) (Γ := eg195) (Ga := []) (cr := []) (code := ek195) (ps := []) (fuel := 700) emp195.1.2.2.2.2.2.1 ec195 (cCal_nil) (by decide +kernel)
/-- SpanCopierModel.put(IZ)Z16 -/
def enr31 : cCn := ((2, 1, ([(0, 16, 21), (1, 0, 1)], [], [(0, 12, 12, false, (0, []))], []), [(1, 0, (0, [])), (0, 0, (0, [(0, 1)])), (0, 0, (0, [(1, 1)]))]), (2, 1, ([], [], [], []), [(0, 0, (0, [(1, 1)]))]), [(41, 16, 21)])
theorem ewr31 : cwCn enr31 = true := by decide +kernel
theorem eor31 : cOk cT0 ey195 3 1 0 0 enr31 := c_ok (d := 0) (Γ := eg195) (Ga := []) (cr := []) (code := ek195) (ps := []) (fuel := 700) emp195.1.2.2.2.2.2.1 ec195 (cCal_nil) (by decide +kernel)
/-- SpanCopierModel.isFresh(I)Z -/
def enr32 : cCn := ((2, 1, ([(0, 0, 6), (1, 0, 940)], [], [(0, 12, 12, false, (0, []))], [(0, 5, (0, 0, (0, [(1, 1)])))]), [(1, 0, (0, [])), (0, 0, (0, [(0, 1)]))]), (5, 1, ([(2, 0, 1), (3, 0, 940), (4, 0, 4)], [(0, [(1, -3), (3, 3)]), (4294967297, [(1, -3), (2, -4294967296), (3, 3), (4, -1)])], [], [(0, 5, (0, 0, (0, [(3, 1)]))), (0, 7, (0, 0, (0, [(4, 1)])))]), [(0, 0, (0, [(2, 1)]))]), [(12, 5, 11), (43, 0, 6)])
theorem ewr32 : cwCn enr32 = true := by decide +kernel
theorem eor32 : cOk cT0 ey196 2 5 0 0 enr32 := c_ok (d := 4) (Γ := eg196) (Ga := [[(0, 0, enr18)], [(0, 0, enx0), (0, 0, enx1)]]) (cr := []) (code := ek196) (ps := []) (fuel := 700) emp196.1.2.2.2.2.2.1 ec196 (cCal_cons (cAl_cons (eor18.mono (by decide)) ewr18 (cAl_nil)) (cCal_cons (cAl_cons (eox0.mono (by decide)) ewx0 (cAl_cons (eox1.mono (by decide)) ewx1 (cAl_nil))) (cCal_nil))) (by decide +kernel)
/-- SpanCopierModel.isAnyName()Z -/
def enr33 : cCn := ((0, 1, ([], [], [(0, 12, 12, false, (0, []))], []), [(1, 0, (0, []))]), (2, 1, ([(0, 0, 1)], [(4294967296, [(0, -4294967296), (1, 1)]), (4294967305, [(0, -4294967296), (1, -1)])], [], [(0, 13, (0, 0, (0, [(1, 1)])))]), [(0, 0, (0, [(0, 1)]))]), [(12, 10, 11), (12, 13, 13)])
theorem ewr33 : cwCn enr33 = true := by decide +kernel
theorem eor33 : cOk cT0 ey197 1 4 0 0 enr33 := c_ok (d := 3) (Γ := eg197) (Ga := [[(0, 0, enr19)], [(0, 0, enr18)], [(0, 0, enr25)]]) (cr := []) (code := ek197) (ps := []) (fuel := 700) emp197.1.2.2.2.2.2.1 ec197 (cCal_cons (cAl_cons (eor19.mono (by decide)) ewr19 (cAl_nil)) (cCal_cons (cAl_cons (eor18.mono (by decide)) ewr18 (cAl_nil)) (cCal_cons (cAl_cons (eor25.mono (by decide)) ewr25 (cAl_nil)) (cCal_nil)))) (by decide +kernel)
/-- SpanCopierModel.takeName()V -/
def enr34 : cCn := ((2, 1, ([(0, 0, 940), (1, 0, 9)], [], [(0, 12, 12, false, (0, []))], [(0, 5, (0, 0, (0, [(0, 1)]))), (0, 13, (0, 0, (0, [(1, 1)])))]), [(1, 0, (0, []))]), (4, 1, ([(2, 0, 940), (3, 0, 4)], [(0, [(0, -3), (2, 3)]), (1, [(0, -3), (2, 3), (3, -1)])], [], [(0, 5, (0, 0, (0, [(2, 1)]))), (0, 7, (0, 0, (0, [(3, 1)])))]), []), [(12, 5, 9), (41, 7, 7)])
theorem ewr34 : cwCn enr34 = true := by decide +kernel
theorem eor34 : cOk cT0 ey198 1 5 0 0 enr34 := c_ok (d := 4) (Γ := eg198) (Ga := [[(0, 0, enx0), (0, 0, enx1)]]) (cr := []) (code := ek198) (ps := []) (fuel := 700) emp198.1.2.2.2.2.2.1 ec198 (cCal_cons (cAl_cons (eox0.mono (by decide)) ewx0 (cAl_cons (eox1.mono (by decide)) ewx1 (cAl_nil))) (cCal_nil)) (by decide +kernel)
/-- SpanCopierModel.readAnyName()Z -/
def enr35 : cCn := ((1, 1, ([(0, 0, 940)], [], [(0, 12, 12, false, (0, []))], [(0, 5, (0, 0, (0, [(0, 1)])))]), [(1, 0, (0, []))]), (5, 1, ([(1, 0, 1), (2, 0, 940), (3, 0, 4)], [(0, [(0, -3), (2, 3)]), (4294967297, [(0, -3), (1, -4294967296), (2, 3), (3, -1)]), (4294967296, [(1, -4294967296), (4, 1)]), (4294967305, [(1, -4294967296), (4, -1)])], [], [(0, 5, (0, 0, (0, [(2, 1)]))), (0, 7, (0, 0, (0, [(3, 1)]))), (0, 13, (0, 0, (0, [(4, 1)])))]), [(0, 0, (0, [(1, 1)]))]), [(12, 5, 11), (12, 13, 13), (41, 7, 7)])
theorem ewr35 : cwCn enr35 = true := by decide +kernel
theorem eor35 : cOk cT0 ey199 1 6 0 0 enr35 := c_ok (d := 5) (Γ := eg199) (Ga := [[(0, 0, enr33)], [(0, 0, enr34)]]) (cr := []) (code := ek199) (ps := []) (fuel := 700) emp199.1.2.2.2.2.2.1 ec199 (cCal_cons (cAl_cons (eor33.mono (by decide)) ewr33 (cAl_nil)) (cCal_cons (cAl_cons (eor34.mono (by decide)) ewr34 (cAl_nil)) (cCal_nil))) (by decide +kernel)
/-- SpanCopierModel.readPolicy()Z -/
def enr36 : cCn := ((1, 1, ([(0, 0, 940)], [], [(0, 12, 12, false, (0, []))], [(0, 5, (0, 0, (0, [(0, 1)])))]), [(1, 0, (0, []))]), (4, 1, ([(1, 0, 1), (2, 0, 940), (3, 0, 4)], [(0, [(0, -3), (2, 3)]), (4294967297, [(0, -3), (1, -4294967296), (2, 3), (3, -1)])], [], [(0, 5, (0, 0, (0, [(2, 1)]))), (0, 7, (0, 0, (0, [(3, 1)])))]), [(0, 0, (0, [(1, 1)]))]), [(12, 5, 11), (41, 1, 1), (43, 0, 6)])
theorem ewr36 : cwCn enr36 = true := by decide +kernel
theorem eor36 : cOk cT0 ey200 2 6 0 0 enr36 := c_ok (d := 5) (Γ := eg200) (Ga := [[(0, 0, enr32)], [(0, 0, enr15)], [(0, 0, enr18)], [(0, 0, enx0), (0, 0, enx1)]]) (cr := []) (code := ek200) (ps := []) (fuel := 700) emp200.1.2.2.2.2.2.1 ec200 (cCal_cons (cAl_cons (eor32.mono (by decide)) ewr32 (cAl_nil)) (cCal_cons (cAl_cons (eor15.mono (by decide)) ewr15 (cAl_nil)) (cCal_cons (cAl_cons (eor18.mono (by decide)) ewr18 (cAl_nil)) (cCal_cons (cAl_cons (eox0.mono (by decide)) ewx0 (cAl_cons (eox1.mono (by decide)) ewx1 (cAl_nil))) (cCal_nil))))) (by decide +kernel)
/-- SpanCopierModel.readHas()Z -/
def enr37 : cCn := ((1, 1, ([(0, 0, 940)], [], [(0, 12, 12, false, (0, []))], [(0, 5, (0, 0, (0, [(0, 1)])))]), [(1, 0, (0, []))]), (4, 1, ([(1, 0, 1), (2, 0, 940), (3, 0, 4)], [(0, [(0, -3), (2, 3)]), (4294967297, [(0, -3), (1, -4294967296), (2, 3), (3, -1)])], [], [(0, 5, (0, 0, (0, [(2, 1)]))), (0, 7, (0, 0, (0, [(3, 1)])))]), [(0, 0, (0, [(1, 1)]))]), [(12, 5, 11), (12, 13, 13), (41, 7, 7), (41, 9, 9)])
theorem ewr37 : cwCn enr37 = true := by decide +kernel
theorem eor37 : cOk cT0 ey201 1 6 0 0 enr37 := c_ok (d := 5) (Γ := eg201) (Ga := [[(0, 0, enx0), (0, 0, enx1)], [(0, 0, enr33)], [(0, 0, enr2)], [(0, 0, enr18)], [(0, 0, enr34)]]) (cr := []) (code := ek201) (ps := []) (fuel := 700) emp201.1.2.2.2.2.2.1 ec201 (cCal_cons (cAl_cons (eox0.mono (by decide)) ewx0 (cAl_cons (eox1.mono (by decide)) ewx1 (cAl_nil))) (cCal_cons (cAl_cons (eor33.mono (by decide)) ewr33 (cAl_nil)) (cCal_cons (cAl_cons (eor2.mono (by decide)) ewr2 (cAl_nil)) (cCal_cons (cAl_cons (eor18.mono (by decide)) ewr18 (cAl_nil)) (cCal_cons (cAl_cons (eor34.mono (by decide)) ewr34 (cAl_nil)) (cCal_nil)))))) (by decide +kernel)
/-- SpanCopierModel.readAct()Z -/
def enr38 : cCn := ((1, 1, ([(0, 0, 940)], [], [(0, 12, 12, false, (0, []))], [(0, 5, (0, 0, (0, [(0, 1)])))]), [(1, 0, (0, []))]), (4, 1, ([(1, 0, 1), (2, 0, 940), (3, 0, 4)], [(0, [(0, -3), (2, 3)]), (4294967297, [(0, -3), (1, -4294967296), (2, 3), (3, -1)])], [], [(0, 5, (0, 0, (0, [(2, 1)]))), (0, 7, (0, 0, (0, [(3, 1)])))]), [(0, 0, (0, [(1, 1)]))]), [(12, 5, 11), (12, 13, 13), (41, 0, 0), (41, 2, 8), (41, 10, 27)])
theorem ewr38 : cwCn enr38 = true := by decide +kernel
theorem eor38 : cOk cT0 ey202 3 7 0 0 enr38 := c_ok (d := 6) (Γ := eg202) (Ga := [[(0, 0, enr18)], [(0, 0, enx0), (0, 0, enx1)], [(0, 0, enr15)], [(0, 0, enr35)], [(0, 0, enr26), (0, 0, enr27), (0, 0, enr28), (0, 0, enr29), (0, 0, enr30), (0, 0, enr31)], [(0, 0, enr33)], [(0, 0, enr34)]]) (cr := []) (code := ek202) (ps := [(27, (5, 2, ([(0, 0, 940), (1, 0, 940), (2, 0, 5), (3, -1, 3), (4, 12, 16)], [(0, [(0, -3), (1, 3)])], [(0, 12, 12, false, (0, [])), (1, 41, 62, false, (28, []))], [(0, 5, (0, 0, (0, [(1, 1)]))), (0, 15, (1, 1, (0, []))), (0, 15, (1, 1, (0, []))), (1, 8, (0, 0, (0, [(2, 1)])))]), 0, 0), [(1, 0, (0, [])), (0, 0, (0, [(3, 1)])), (0, 0, (0, [(4, 1)]))], [], [(16, [(4, -1)]), (0, [(0, 1)])], [(1, 0, (0, []))]),
  (85, (4, 2, ([(0, 0, 940), (1, 0, 940), (2, 0, 5), (3, 0, 3)], [(0, [(0, -3), (1, 3)])], [(0, 12, 12, false, (0, [])), (1, 41, 62, false, (28, []))], [(0, 5, (0, 0, (0, [(1, 1)]))), (0, 15, (1, 1, (0, []))), (0, 15, (1, 1, (0, []))), (1, 8, (0, 0, (0, [(2, 1)])))]), 0, 0), [(1, 0, (0, [])), (0, 0, (0, [(3, 1)])), (0, 0, (0, [(2, 1)]))], [], [(0, []), (0, [(0, 1)])], [(1, 0, (0, []))]),
  (102, (5, 2, ([(0, 0, 940), (1, 0, 940), (2, 0, 5), (3, 0, 4), (4, 0, 3)], [(0, [(0, -3), (1, 3)]), (1, [(0, -3), (1, 3), (3, -1)])], [(0, 12, 12, false, (0, [])), (1, 41, 62, false, (28, []))], [(0, 5, (0, 0, (0, [(1, 1)]))), (0, 15, (1, 1, (0, []))), (0, 15, (1, 1, (0, []))), (1, 8, (0, 0, (0, [(2, 1)]))), (0, 7, (0, 0, (0, [(3, 1)])))]), 0, 0), [(1, 0, (0, [])), (0, 0, (0, [(4, 1)])), (0, 0, (0, [(2, 1)]))], [], [(0, []), (0, [(0, 1)])], [(1, 0, (0, []))]),
  (155, (5, 2, ([(0, 0, 940), (1, 0, 940), (2, 0, 5), (3, 0, 4), (4, 0, 3)], [(0, [(0, -3), (1, 3)]), (1, [(0, -3), (1, 3), (3, -1)])], [(0, 12, 12, false, (0, [])), (1, 41, 62, false, (28, []))], [(0, 5, (0, 0, (0, [(1, 1)]))), (0, 15, (1, 1, (0, []))), (0, 15, (1, 1, (0, []))), (1, 8, (0, 0, (0, [(2, 1)]))), (0, 7, (0, 0, (0, [(3, 1)])))]), 0, 0), [(1, 0, (0, [])), (0, 0, (0, [(4, 1)])), (0, 0, (0, [(2, 1)]))], [], [(0, []), (0, [(0, 1)])], [(1, 0, (0, []))])]) (fuel := 700) emp202.1.2.2.2.2.2.1 ec202 (cCal_cons (cAl_cons (eor18.mono (by decide)) ewr18 (cAl_nil)) (cCal_cons (cAl_cons (eox0.mono (by decide)) ewx0 (cAl_cons (eox1.mono (by decide)) ewx1 (cAl_nil))) (cCal_cons (cAl_cons (eor15.mono (by decide)) ewr15 (cAl_nil)) (cCal_cons (cAl_cons (eor35.mono (by decide)) ewr35 (cAl_nil)) (cCal_cons (cAl_cons (eor26.mono (by decide)) ewr26 (cAl_cons (eor27.mono (by decide)) ewr27 (cAl_cons (eor28.mono (by decide)) ewr28 (cAl_cons (eor29.mono (by decide)) ewr29 (cAl_cons (eor30.mono (by decide)) ewr30 (cAl_cons (eor31.mono (by decide)) ewr31 (cAl_nil))))))) (cCal_cons (cAl_cons (eor33.mono (by decide)) ewr33 (cAl_nil)) (cCal_cons (cAl_cons (eor34.mono (by decide)) ewr34 (cAl_nil)) (cCal_nil)))))))) (by decide +kernel)
/-- SpanCopierModel.readLine()Z -/
def enr39 : cCn := ((1, 1, ([(0, 0, 940)], [], [(0, 12, 12, false, (0, []))], [(0, 5, (0, 0, (0, [(0, 1)])))]), [(1, 0, (0, []))]), (4, 1, ([(1, 0, 1), (2, 0, 940), (3, 0, 4)], [(0, [(0, -3), (2, 3)]), (4294967297, [(0, -3), (1, -4294967296), (2, 3), (3, -1)])], [], [(0, 5, (0, 0, (0, [(2, 1)]))), (0, 7, (0, 0, (0, [(3, 1)])))]), [(0, 0, (0, [(1, 1)]))]), [(12, 5, 11), (12, 13, 13), (41, 0, 27), (43, 0, 6)])
theorem ewr39 : cwCn enr39 = true := by decide +kernel
theorem eor39 : cOk cT0 ey203 1 8 0 0 enr39 := c_ok (d := 7) (Γ := eg203) (Ga := [[(0, 0, enr15)], [(0, 0, enr32)], [(0, 0, enr21), (0, 0, enr22)], [(0, 0, enr26), (0, 0, enr27), (0, 0, enr28), (0, 0, enr29), (0, 0, enr30), (0, 0, enr31)], [(0, 0, enr36)], [(0, 0, enr35)], [(0, 0, enr37)], [(0, 0, enr38)], [(0, 0, enr18)]]) (cr := []) (code := ek203) (ps := []) (fuel := 700) emp203.1.2.2.2.2.2.1 ec203 (cCal_cons (cAl_cons (eor15.mono (by decide)) ewr15 (cAl_nil)) (cCal_cons (cAl_cons (eor32.mono (by decide)) ewr32 (cAl_nil)) (cCal_cons (cAl_cons (eor21.mono (by decide)) ewr21 (cAl_cons (eor22.mono (by decide)) ewr22 (cAl_nil))) (cCal_cons (cAl_cons (eor26.mono (by decide)) ewr26 (cAl_cons (eor27.mono (by decide)) ewr27 (cAl_cons (eor28.mono (by decide)) ewr28 (cAl_cons (eor29.mono (by decide)) ewr29 (cAl_cons (eor30.mono (by decide)) ewr30 (cAl_cons (eor31.mono (by decide)) ewr31 (cAl_nil))))))) (cCal_cons (cAl_cons (eor36.mono (by decide)) ewr36 (cAl_nil)) (cCal_cons (cAl_cons (eor35.mono (by decide)) ewr35 (cAl_nil)) (cCal_cons (cAl_cons (eor37.mono (by decide)) ewr37 (cAl_nil)) (cCal_cons (cAl_cons (eor38.mono (by decide)) ewr38 (cAl_nil)) (cCal_cons (cAl_cons (eor18.mono (by decide)) ewr18 (cAl_nil)) (cCal_nil)))))))))) (by decide +kernel)
