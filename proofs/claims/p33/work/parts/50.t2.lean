/-- Math.min(II)I+ -/
def en0 : cCn := ((2, 0, ([(0, 0, 2147483647), (1, 0, 2147483647)], [], [], []), [(0, 0, (0, [(0, 1)])), (0, 0, (0, [(1, 1)]))]), (3, 0, ([(2, 0, 2147483647)], [(0, [(0, 1), (2, -1)]), (0, [(1, 1), (2, -1)])], [], []), [(0, 0, (0, [(2, 1)]))]), [])
theorem ew0 : cwCn en0 = true := by decide +kernel
theorem eo0 : cOk cT0 ey301 2 1 0 0 en0 := c_ok (d := 0) (Γ := eg301) (Ga := []) (cr := []) (code := ek301) (ps := []) (fuel := 700) emp301.1.2.2.2.2.2.1 ec301 (cCal_nil) (by decide +kernel)
/-- Math.min(II)I -/
def en1 : cCn := ((2, 0, ([], [], [], []), [(0, 0, (0, [(0, 1)])), (0, 0, (0, [(1, 1)]))]), (3, 0, ([], [(0, [(0, 1), (2, -1)]), (0, [(1, 1), (2, -1)])], [], []), [(0, 0, (0, [(2, 1)]))]), [])
theorem ew1 : cwCn en1 = true := by decide +kernel
theorem eo1 : cOk cT0 ey301 2 1 0 0 en1 := c_ok (d := 0) (Γ := eg301) (Ga := []) (cr := []) (code := ek301) (ps := []) (fuel := 700) emp301.1.2.2.2.2.2.1 ec301 (cCal_nil) (by decide +kernel)
/-- Math.max(II)I -/
def en2 : cCn := ((2, 0, ([], [], [], []), [(0, 0, (0, [(0, 1)])), (0, 0, (0, [(1, 1)]))]), (3, 0, ([], [(0, [(0, -1), (2, 1)]), (0, [(1, -1), (2, 1)])], [], []), [(0, 0, (0, [(2, 1)]))]), [])
theorem ew2 : cwCn en2 = true := by decide +kernel
theorem eo2 : cOk cT0 ey300 2 1 0 0 en2 := c_ok (d := 0) (Γ := eg300) (Ga := []) (cr := []) (code := ek300) (ps := []) (fuel := 700) emp300.1.2.2.2.2.2.1 ec300 (cCal_nil) (by decide +kernel)
/-- Arrays.fill([BB)V -/
def en5 : cCn := ((1, 1, ([(0, -128, 127)], [], [(0, 22, 48, false, (240, []))], []), [(1, 0, (0, [])), (0, 0, (0, [(0, 1)]))]), (1, 1, ([], [], [], []), []), [(22, 0, 239)])
theorem ew5 : cwCn en5 = true := by decide +kernel
theorem eo5 : cOk cT0 ey303 4 1 0 0 en5 := c_ok (d := 0) (Γ := eg303) (Ga := []) (cr := []) (code := ek303) (ps := [(5, (2, 1, ([(0, -128, 127), (1, 0, 30000)], [(240, [(1, -1)])], [(0, 22, 48, false, (240, []))], []), 0, 0), [(1, 0, (0, [])), (0, 0, (0, [(0, 1)])), (0, 0, (0, [(1, 1)])), (0, 0, (240, []))], [], [(30000, [(1, -1)]), (0, [(0, 1)])], [(1, 0, (0, []))])]) (fuel := 700) emp303.1.2.2.2.2.2.1 ec303 (cCal_nil) (by decide +kernel)
/-- Places.<init>()V -/
def en38 : cCn := ((0, 1, ([], [], [(0, 4, 0, false, (0, []))], [(0, 0, (2, 0, (0, []))), (0, 1, (0, 0, (0, [])))]), [(1, 0, (0, []))]), (0, 1, ([], [], [(0, 4, 4, false, (0, []))], []), []), [(4, 0, 0), (1004, 0, 0)])
theorem ew38 : cwCn en38 = true := by decide +kernel
theorem eo38 : cOk cT0 ey31 1 1 1 240 en38 := c_ok (d := 0) (Γ := eg31) (Ga := []) (cr := [(0, 4, 4)]) (code := ek31) (ps := []) (fuel := 700) emp31.1.2.2.2.2.2.1 ec31 (cCal_nil) (by decide +kernel)
/-- Places.copyFrom(LSpanCopier.Places;)V -/
def en39 : cCn := ((0, 2, ([], [], [(0, 4, 4, false, (0, [])), (1, 4, 4, false, (0, []))], []), [(1, 0, (0, [])), (1, 1, (0, []))]), (0, 2, ([], [], [], []), []), [(4, 1, 1), (22, 0, 240)])
theorem ew39 : cwCn en39 = true := by decide +kernel
theorem eo39 : cOk cT0 ey32 2 1 0 0 en39 := c_ok (d := 0) (Γ := eg32) (Ga := []) (cr := []) (code := ek32) (ps := []) (fuel := 700) emp32.1.2.2.2.2.2.1 ec32 (cCal_nil) (by decide +kernel)
/-- Places.clear()V -/
def en40 : cCn := ((0, 1, ([], [], [(0, 4, 4, false, (0, []))], []), [(1, 0, (0, []))]), (0, 1, ([], [], [], []), []), [(4, 1, 1), (22, 0, 239)])
theorem ew40 : cwCn en40 = true := by decide +kernel
theorem eo40 : cOk cT0 ey33 1 2 0 0 en40 := c_ok (d := 1) (Γ := eg33) (Ga := [[(0, 0, en5)]]) (cr := []) (code := ek33) (ps := []) (fuel := 700) emp33.1.2.2.2.2.2.1 ec33 (cCal_cons (cAl_cons (eo5.mono (by decide)) ew5 (cAl_nil)) (cCal_nil)) (by decide +kernel)
/-- Places.has(I)Z -/
def en41 : cCn := ((1, 1, ([], [], [(0, 4, 4, false, (0, []))], []), [(1, 0, (0, [])), (0, 0, (0, [(0, 1)]))]), (2, 1, ([(1, 0, 1)], [], [], []), [(0, 0, (0, [(1, 1)]))]), [])
theorem ew41 : cwCn en41 = true := by decide +kernel
theorem eo41 : cOk cT0 ey34 2 1 0 0 en41 := c_ok (d := 0) (Γ := eg34) (Ga := []) (cr := []) (code := ek34) (ps := []) (fuel := 700) emp34.1.2.2.2.2.2.1 ec34 (cCal_nil) (by decide +kernel)
/-- Places.mark(II)V -/
def en42 : cCn := ((2, 1, ([], [], [(0, 4, 4, false, (0, []))], []), [(1, 0, (0, [])), (0, 0, (0, [(0, 1)])), (0, 0, (0, [(1, 1)]))]), (2, 1, ([], [], [], []), []), [(4, 1, 1), (22, 0, 239)])
theorem ew42 : cwCn en42 = true := by decide +kernel
theorem eo42 : cOk cT0 ey35 4 2 0 0 en42 := c_ok (d := 1) (Γ := eg35) (Ga := [[(0, 0, en2)]]) (cr := []) (code := ek35) (ps := [(6, (3, 1, ([(2, 0, 2147483647)], [], [(0, 4, 4, false, (0, []))], []), 0, 0), [(1, 0, (0, [])), (0, 0, (0, [(0, 1)])), (0, 0, (0, [(1, 1)])), (0, 0, (0, [(2, 1)]))], [], [(2147483647, [(2, -1)]), (0, [(0, 1)]), (0, [(1, 1)])], [(1, 0, (0, []))])]) (fuel := 700) emp35.1.2.2.2.2.2.1 ec35 (cCal_cons (cAl_cons (eo2.mono (by decide)) ew2 (cAl_nil)) (cCal_nil)) (by decide +kernel)
/-- Places.unmark(II)Z -/
def en43 : cCn := ((2, 1, ([], [], [(0, 4, 4, false, (0, []))], []), [(1, 0, (0, [])), (0, 0, (0, [(0, 1)])), (0, 0, (0, [(1, 1)]))]), (3, 1, ([(2, 0, 1)], [], [], []), [(0, 0, (0, [(2, 1)]))]), [(4, 1, 1), (22, 0, 239)])
theorem ew43 : cwCn en43 = true := by decide +kernel
theorem eo43 : cOk cT0 ey36 5 2 0 0 en43 := c_ok (d := 1) (Γ := eg36) (Ga := [[(0, 0, en2)]]) (cr := []) (code := ek36) (ps := [(12, (4, 1, ([(3, 0, 2147483647)], [], [(0, 4, 4, false, (0, []))], []), 0, 0), [(1, 0, (0, [])), (0, 0, (0, [(0, 1)])), (0, 0, (0, [(1, 1)])), (0, 0, (0, [(2, 1)])), (0, 0, (0, [(3, 1)]))], [], [(2147483647, [(3, -1)]), (0, [(0, 1)]), (0, [(1, 1)])], [(1, 0, (0, []))])]) (fuel := 700) emp36.1.2.2.2.2.2.1 ec36 (cCal_cons (cAl_cons (eo2.mono (by decide)) ew2 (cAl_nil)) (cCal_nil)) (by decide +kernel)
/-- Places.nextFrom(I)I -/
def en44 : cCn := ((1, 1, ([], [], [(0, 4, 4, false, (0, []))], []), [(1, 0, (0, [])), (0, 0, (0, [(0, 1)]))]), (2, 1, ([], [], [], []), [(0, 0, (0, [(1, 1)]))]), [])
theorem ew44 : cwCn en44 = true := by decide +kernel
theorem eo44 : cOk cT0 ey37 3 1 0 0 en44 := c_ok (d := 0) (Γ := eg37) (Ga := []) (cr := []) (code := ek37) (ps := [(23, (2, 1, ([(1, 0, 2147483647)], [], [(0, 4, 4, false, (0, []))], []), 0, 0), [(1, 0, (0, [])), (0, 0, (0, [(0, 1)])), (0, 0, (0, [(1, 1)]))], [], [(2147483647, [(1, -1)]), (0, [(0, 1)])], [(1, 0, (0, []))])]) (fuel := 700) emp37.1.2.2.2.2.2.1 ec37 (cCal_nil) (by decide +kernel)
/-- Places.endOf(I)I -/
def en45 : cCn := ((1, 1, ([], [], [(0, 4, 4, false, (0, []))], []), [(1, 0, (0, [])), (0, 0, (0, [(0, 1)]))]), (2, 1, ([], [], [], []), [(0, 0, (0, [(1, 1)]))]), [])
theorem ew45 : cwCn en45 = true := by decide +kernel
theorem eo45 : cOk cT0 ey38 3 1 0 0 en45 := c_ok (d := 0) (Γ := eg38) (Ga := []) (cr := []) (code := ek38) (ps := [(10, (2, 1, ([(1, 0, 2147483647)], [], [(0, 4, 4, false, (0, []))], []), 0, 0), [(1, 0, (0, [])), (0, 0, (0, [(0, 1)])), (0, 0, (0, [(1, 1)]))], [], [(2147483647, [(1, -1)]), (0, [(0, 1)])], [(1, 0, (0, []))])]) (fuel := 700) emp38.1.2.2.2.2.2.1 ec38 (cCal_nil) (by decide +kernel)
/-- Places.startsSpan(I)Z -/
def en46 : cCn := ((1, 1, ([], [], [(0, 4, 4, false, (0, []))], []), [(1, 0, (0, [])), (0, 0, (0, [(0, 1)]))]), (2, 1, ([(1, 0, 1)], [], [], []), [(0, 0, (0, [(1, 1)]))]), [])
theorem ew46 : cwCn en46 = true := by decide +kernel
theorem eo46 : cOk cT0 ey39 2 2 0 0 en46 := c_ok (d := 1) (Γ := eg39) (Ga := [[(0, 0, en41)]]) (cr := []) (code := ek39) (ps := []) (fuel := 700) emp39.1.2.2.2.2.2.1 ec39 (cCal_cons (cAl_cons (eo41.mono (by decide)) ew41 (cAl_nil)) (cCal_nil)) (by decide +kernel)
/-- Places.countSpans()I -/
def en47 : cCn := ((0, 1, ([], [], [(0, 4, 4, false, (0, []))], []), [(1, 0, (0, []))]), (1, 1, ([], [], [], []), [(0, 0, (0, [(0, 1)]))]), [])
theorem ew47 : cwCn en47 = true := by decide +kernel
theorem eo47 : cOk cT0 ey40 3 3 0 0 en47 := c_ok (d := 2) (Γ := eg40) (Ga := [[(0, 0, en46)]]) (cr := []) (code := ek40) (ps := [(4, (2, 1, ([(1, 0, 240)], [], [(0, 4, 4, false, (0, []))], []), 0, 0), [(1, 0, (0, [])), (0, 0, (0, [(0, 1)])), (0, 0, (0, [(1, 1)]))], [], [(240, [(1, -1)])], [(1, 0, (0, []))])]) (fuel := 700) emp40.1.2.2.2.2.2.1 ec40 (cCal_cons (cAl_cons (eo46.mono (by decide)) ew46 (cAl_nil)) (cCal_nil)) (by decide +kernel)
/-- Places.edge(II)I -/
def en48 : cCn := ((2, 1, ([], [], [(0, 4, 4, false, (0, []))], []), [(1, 0, (0, [])), (0, 0, (0, [(0, 1)])), (0, 0, (0, [(1, 1)]))]), (3, 1, ([], [], [], []), [(0, 0, (0, [(2, 1)]))]), [])
theorem ew48 : cwCn en48 = true := by decide +kernel
theorem eo48 : cOk cT0 ey41 5 3 0 0 en48 := c_ok (d := 2) (Γ := eg41) (Ga := [[(0, 0, en46)], [(0, 0, en45)]]) (cr := []) (code := ek41) (ps := [(20, (4, 1, ([(3, 0, 240)], [], [(0, 4, 4, false, (0, []))], []), 0, 0), [(1, 0, (0, [])), (0, 0, (0, [(0, 1)])), (0, 0, (0, [(1, 1)])), (0, 0, (0, [(2, 1)])), (0, 0, (0, [(3, 1)]))], [], [(240, [(3, -1)]), (0, [(0, 1)]), (0, [(1, 1)])], [(1, 0, (0, []))])]) (fuel := 700) emp41.1.2.2.2.2.2.1 ec41 (cCal_cons (cAl_cons (eo46.mono (by decide)) ew46 (cAl_nil)) (cCal_cons (cAl_cons (eo45.mono (by decide)) ew45 (cAl_nil)) (cCal_nil))) (by decide +kernel)
/-- Link.<init>()V -/
def en49 : cCn := ((0, 1, ([], [], [(0, 2, 0, false, (0, []))], [(0, 0, (2, 0, (0, []))), (0, 1, (2, 0, (0, []))), (0, 2, (0, 0, (0, []))), (0, 3, (0, 0, (0, []))), (0, 4, (0, 0, (0, [])))]), [(1, 0, (0, []))]), (0, 1, ([], [], [(0, 2, 2, false, (0, []))], []), []), [(2, 0, 1), (1002, 0, 0)])
theorem ew49 : cwCn en49 = true := by decide +kernel
theorem eo49 : cOk cT0 ey5 1 1 2 533 en49 := c_ok (d := 0) (Γ := eg5) (Ga := []) (cr := [(0, 2, 2)]) (code := ek5) (ps := []) (fuel := 700) emp5.1.2.2.2.2.2.1 ec5 (cCal_nil) (by decide +kernel)
/-- Link.clear()V -/
def en50 : cCn := ((0, 1, ([], [], [(0, 2, 2, false, (0, []))], []), [(1, 0, (0, []))]), (0, 1, ([], [], [], []), []), [(2, 2, 3)])
theorem ew50 : cwCn en50 = true := by decide +kernel
theorem eo50 : cOk cT0 ey6 1 1 0 0 en50 := c_ok (d := 0) (Γ := eg6) (Ga := []) (cr := []) (code := ek6) (ps := []) (fuel := 700) emp6.1.2.2.2.2.2.1 ec6 (cCal_nil) (by decide +kernel)
/-- Link.goesOut(I)Z -/
def en51 : cCn := ((1, 0, ([], [], [], []), [(0, 0, (0, [(0, 1)]))]), (2, 0, ([(1, 0, 1)], [], [], []), [(0, 0, (0, [(1, 1)]))]), [])
theorem ew51 : cwCn en51 = true := by decide +kernel
theorem eo51 : cOk cT0 ey8 1 1 0 0 en51 := c_ok (d := 0) (Γ := eg8) (Ga := []) (cr := []) (code := ek8) (ps := []) (fuel := 700) emp8.1.2.2.2.2.2.1 ec8 (cCal_nil) (by decide +kernel)
/-- Link.spanFrom(I)I -/
def en52 : cCn := ((1, 0, ([], [], [], []), [(0, 0, (0, [(0, 1)]))]), (2, 0, ([], [], [], []), [(0, 0, (0, [(1, 1)]))]), [])
theorem ew52 : cwCn en52 = true := by decide +kernel
theorem eo52 : cOk cT0 ey9 1 1 0 0 en52 := c_ok (d := 0) (Γ := eg9) (Ga := []) (cr := []) (code := ek9) (ps := []) (fuel := 700) emp9.1.2.2.2.2.2.1 ec9 (cCal_nil) (by decide +kernel)
/-- Link.spanTo(I)I -/
def en53 : cCn := ((1, 0, ([], [], [], []), [(0, 0, (0, [(0, 1)]))]), (2, 0, ([], [], [], []), [(0, 0, (0, [(1, 1)]))]), [])
theorem ew53 : cwCn en53 = true := by decide +kernel
theorem eo53 : cOk cT0 ey10 1 1 0 0 en53 := c_ok (d := 0) (Γ := eg10) (Ga := []) (cr := []) (code := ek10) (ps := []) (fuel := 700) emp10.1.2.2.2.2.2.1 ec10 (cCal_nil) (by decide +kernel)
/-- Link.has(I)Z -/
def en54 : cCn := ((1, 1, ([], [], [(0, 2, 2, false, (0, []))], []), [(1, 0, (0, [])), (0, 0, (0, [(0, 1)]))]), (3, 1, ([(1, 0, 1), (2, 0, 40)], [(2147483648, [(0, 1), (1, -2147483648)]), (2147483647, [(0, -1), (1, -2147483648), (2, 1)])], [], [(0, 2, (0, 0, (0, [(2, 1)])))]), [(0, 0, (0, [(1, 1)]))]), [])
theorem ew54 : cwCn en54 = true := by decide +kernel
theorem eo54 : cOk cT0 ey11 2 1 0 0 en54 := c_ok (d := 0) (Γ := eg11) (Ga := []) (cr := []) (code := ek11) (ps := []) (fuel := 700) emp11.1.2.2.2.2.2.1 ec11 (cCal_nil) (by decide +kernel)
/-- Link.copyFrom(LSpanCopier.Link;)V -/
def en55 : cCn := ((0, 2, ([], [], [(0, 2, 2, false, (0, [])), (1, 2, 2, false, (0, []))], []), [(1, 0, (0, [])), (1, 1, (0, []))]), (0, 2, ([], [], [], []), []), [(2, 2, 3), (21, 0, 520)])
theorem ew55 : cwCn en55 = true := by decide +kernel
theorem eo55 : cOk cT0 ey7 2 1 0 0 en55 := c_ok (d := 0) (Γ := eg7) (Ga := []) (cr := []) (code := ek7) (ps := []) (fuel := 700) emp7.1.2.2.2.2.2.1 ec7 (cCal_nil) (by decide +kernel)
/-- Link.get(II)I -/
def en56 : cCn := ((2, 1, ([], [], [(0, 2, 2, false, (0, []))], []), [(1, 0, (0, [])), (0, 0, (0, [(0, 1)])), (0, 0, (0, [(1, 1)]))]), (3, 1, ([], [], [], []), [(0, 0, (0, [(2, 1)]))]), [])
theorem ew56 : cwCn en56 = true := by decide +kernel
theorem eo56 : cOk cT0 ey12 3 2 0 0 en56 := c_ok (d := 1) (Γ := eg12) (Ga := [[(0, 0, en54)]]) (cr := []) (code := ek12) (ps := []) (fuel := 700) emp12.1.2.2.2.2.2.1 ec12 (cCal_cons (cAl_cons (eo54.mono (by decide)) ew54 (cAl_nil)) (cCal_nil)) (by decide +kernel)
/-- Link.send(III)V -/
def en57 : cCn := ((3, 1, ([], [], [(0, 2, 2, false, (0, []))], []), [(1, 0, (0, [])), (0, 0, (0, [(0, 1)])), (0, 0, (0, [(1, 1)])), (0, 0, (0, [(2, 1)]))]), (3, 1, ([], [], [], []), []), [(2, 2, 3), (21, 0, 511)])
theorem ew57 : cwCn en57 = true := by decide +kernel
theorem eo57 : cOk cT0 ey13 5 1 0 0 en57 := c_ok (d := 0) (Γ := eg13) (Ga := []) (cr := []) (code := ek13) (ps := []) (fuel := 700) emp13.1.2.2.2.2.2.1 ec13 (cCal_nil) (by decide +kernel)
/-- Link.sendNak(LSpanCopier.Places;II)V -/
def en58 : cCn := ((2, 2, ([], [], [(0, 2, 2, false, (0, [])), (1, 4, 4, false, (0, []))], []), [(1, 0, (0, [])), (1, 1, (0, [])), (0, 0, (0, [(0, 1)])), (0, 0, (0, [(1, 1)]))]), (2, 2, ([], [], [], []), []), [(2, 2, 3), (21, 0, 519)])
theorem ew58 : cwCn en58 = true := by decide +kernel
theorem eo58 : cOk cT0 ey14 7 2 0 0 en58 := c_ok (d := 1) (Γ := eg14) (Ga := [[(0, 0, en44)], [(0, 0, en45)], [(0, 0, en0), (0, 0, en1)], [(0, 0, en57)]]) (cr := []) (code := ek14) (ps := [(10, (4, 2, ([(2, 0, 8)], [], [(0, 2, 2, false, (0, [])), (1, 4, 4, false, (0, []))], []), 0, 0), [(1, 0, (0, [])), (1, 1, (0, [])), (0, 0, (0, [(0, 1)])), (0, 0, (0, [(1, 1)])), (0, 0, (0, [(2, 1)])), (0, 0, (0, [(3, 1)])), (4, 0, (0, []))], [], [(8, [(2, -1)]), (0, [(0, 1)]), (0, [(1, 1)])], [(1, 0, (0, [])), (1, 1, (0, []))])]) (fuel := 700) emp14.1.2.2.2.2.2.1 ec14 (cCal_cons (cAl_cons (eo44.mono (by decide)) ew44 (cAl_nil)) (cCal_cons (cAl_cons (eo45.mono (by decide)) ew45 (cAl_nil)) (cCal_cons (cAl_cons (eo0.mono (by decide)) ew0 (cAl_cons (eo1.mono (by decide)) ew1 (cAl_nil))) (cCal_cons (cAl_cons (eo57.mono (by decide)) ew57 (cAl_nil)) (cCal_nil))))) (by decide +kernel)
/-- Link.remove(I)I -/
def en59 : cCn := ((1, 1, ([], [], [(0, 2, 2, false, (0, []))], []), [(1, 0, (0, [])), (0, 0, (0, [(0, 1)]))]), (2, 1, ([(1, -1, 2)], [], [], []), [(0, 0, (0, [(1, 1)]))]), [(2, 2, 2), (21, 0, 507)])
theorem ew59 : cwCn en59 = true := by decide +kernel
theorem eo59 : cOk cT0 ey16 3 2 0 0 en59 := c_ok (d := 1) (Γ := eg16) (Ga := [[(0, 0, en54)]]) (cr := []) (code := ek16) (ps := []) (fuel := 700) emp16.1.2.2.2.2.2.1 ec16 (cCal_cons (cAl_cons (eo54.mono (by decide)) ew54 (cAl_nil)) (cCal_nil)) (by decide +kernel)
/-- Link.take(I)V -/
def en60 : cCn := ((1, 1, ([], [], [(0, 2, 2, false, (0, []))], []), [(1, 0, (0, [])), (0, 0, (0, [(0, 1)]))]), (1, 1, ([], [], [], []), []), [(2, 2, 2), (21, 0, 507)])
theorem ew60 : cwCn en60 = true := by decide +kernel
theorem eo60 : cOk cT0 ey15 2 3 0 0 en60 := c_ok (d := 2) (Γ := eg15) (Ga := [[(0, 0, en54)], [(0, 0, en59)]]) (cr := []) (code := ek15) (ps := []) (fuel := 700) emp15.1.2.2.2.2.2.1 ec15 (cCal_cons (cAl_cons (eo54.mono (by decide)) ew54 (cAl_nil)) (cCal_cons (cAl_cons (eo59.mono (by decide)) ew59 (cAl_nil)) (cCal_nil))) (by decide +kernel)
/-- Link.repeat(I)I -/
def en61 : cCn := ((1, 1, ([], [], [(0, 2, 2, false, (0, []))], []), [(1, 0, (0, [])), (0, 0, (0, [(0, 1)]))]), (2, 1, ([(1, -1, 2)], [], [], []), [(0, 0, (0, [(1, 1)]))]), [(2, 2, 2), (21, 0, 520)])
theorem ew61 : cwCn en61 = true := by decide +kernel
theorem eo61 : cOk cT0 ey17 2 2 0 0 en61 := c_ok (d := 1) (Γ := eg17) (Ga := [[(0, 0, en54)]]) (cr := []) (code := ek17) (ps := []) (fuel := 700) emp17.1.2.2.2.2.2.1 ec17 (cCal_cons (cAl_cons (eo54.mono (by decide)) ew54 (cAl_nil)) (cCal_nil)) (by decide +kernel)
/-- Link.delay(II)I -/
def en62 : cCn := ((2, 1, ([], [], [(0, 2, 2, false, (0, []))], []), [(1, 0, (0, [])), (0, 0, (0, [(0, 1)])), (0, 0, (0, [(1, 1)]))]), (3, 1, ([(2, -1, 2)], [], [], []), [(0, 0, (0, [(2, 1)]))]), [(21, 0, 27917287412)])
theorem ew62 : cwCn en62 = true := by decide +kernel
theorem eo62 : cOk cT0 ey18 3 2 0 0 en62 := c_ok (d := 1) (Γ := eg18) (Ga := [[(0, 0, en54)]]) (cr := []) (code := ek18) (ps := []) (fuel := 700) emp18.1.2.2.2.2.2.1 ec18 (cCal_cons (cAl_cons (eo54.mono (by decide)) ew54 (cAl_nil)) (cCal_nil)) (by decide +kernel)
/-- Link.flip(I)I -/
def en63 : cCn := ((1, 1, ([], [], [(0, 2, 2, false, (0, []))], []), [(1, 0, (0, [])), (0, 0, (0, [(0, 1)]))]), (2, 1, ([(1, -1, 2)], [], [], []), [(0, 0, (0, [(1, 1)]))]), [(21, 0, 27917287415)])
theorem ew63 : cwCn en63 = true := by decide +kernel
theorem eo63 : cOk cT0 ey19 2 3 0 0 en63 := c_ok (d := 2) (Γ := eg19) (Ga := [[(0, 0, en54)], [(0, 0, en56)]]) (cr := []) (code := ek19) (ps := []) (fuel := 700) emp19.1.2.2.2.2.2.1 ec19 (cCal_cons (cAl_cons (eo54.mono (by decide)) ew54 (cAl_nil)) (cCal_cons (cAl_cons (eo56.mono (by decide)) ew56 (cAl_nil)) (cCal_nil))) (by decide +kernel)
