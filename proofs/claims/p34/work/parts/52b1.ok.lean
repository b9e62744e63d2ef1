/-- SpanCopierModel.acts(I)Z -/
def enr64 : cCn := ((1, 1, ([(0, 0, 6)], [], [(0, 12, 12, false, (0, []))], []), [(1, 0, (0, [])), (0, 0, (0, [(0, 1)]))]), (2, 1, ([(1, 0, 1)], [], [], []), [(0, 0, (0, [(1, 1)]))]), [(41, 36, 36)])
theorem ewr64 : cwCn enr64 = true := by decide +kernel
theorem eor64 : cOk cT0 ey235 6 1 0 0 enr64 := c_ok (d := 0) (Γ := eg235) (Ga := []) (cr := []) (code := ek235) (ps := []) (fuel := 700) emp235.1.2.2.2.2.2.1 ec235 (cCal_nil) (by decide +kernel)
/-- SpanCopierModel.hasStopped()Z -/
def enr65 : cCn := ((0, 1, ([], [], [(0, 12, 12, false, (0, []))], []), [(1, 0, (0, []))]), (1, 1, ([(0, 0, 1)], [], [], []), [(0, 0, (0, [(0, 1)]))]), [])
theorem ewr65 : cwCn enr65 = true := by decide +kernel
theorem eor65 : cOk cT0 ey236 2 1 0 0 enr65 := c_ok (d := 0) (Γ := eg236) (Ga := []) (cr := []) (code := ek236) (ps := [(2, (1, 1, ([(0, 0, 6)], [], [(0, 12, 12, false, (0, []))], []), 0, 0), [(1, 0, (0, [])), (0, 0, (0, [(0, 1)]))], [], [(6, [(0, -1)])], [(1, 0, (0, []))])]) (fuel := 700) emp236.1.2.2.2.2.2.1 ec236 (cCal_nil) (by decide +kernel)
/-- SpanCopierModel.why(II)I1 -/
def enr74 : cCn := ((3, 2, ([(0, 1, 1), (2, 0, 40)], [], [(0, 12, 12, false, (0, [])), (1, 41, 61, false, (3266, []))], [(0, 14, (1, 1, (0, []))), (1, 45, (0, 0, (0, [(2, 1)])))]), [(1, 0, (0, [])), (0, 0, (0, [(0, 1)])), (0, 0, (0, [(1, 1)]))]), (4, 2, ([(3, 0, 1)], [(39, [(2, -1), (3, 1)])], [], []), [(0, 0, (0, [(3, 1)]))]), [])
theorem ewr74 : cwCn enr74 = true := by decide +kernel
theorem eor74 : cOk cT0 ey248 3 2 0 0 enr74 := c_ok (d := 1) (Γ := eg248) (Ga := [[(0, 0, enr54)]]) (cr := []) (code := ek248) (ps := []) (fuel := 700) emp248.1.2.2.2.2.2.1 ec248 (cCal_cons (cAl_cons (eor54.mono (by decide)) ewr54 (cAl_nil)) (cCal_nil)) (by decide +kernel)
/-- SpanCopierModel.why(II)I -/
def enr75 : cCn := ((2, 1, ([], [], [(0, 12, 12, false, (0, []))], []), [(1, 0, (0, [])), (0, 0, (0, [(0, 1)])), (0, 0, (0, [(1, 1)]))]), (3, 1, ([(2, 0, 1)], [], [], []), [(0, 0, (0, [(2, 1)]))]), [])
theorem ewr75 : cwCn enr75 = true := by decide +kernel
theorem eor75 : cOk cT0 ey248 3 2 0 0 enr75 := c_ok (d := 1) (Γ := eg248) (Ga := [[(0, 0, enr54)]]) (cr := []) (code := ek248) (ps := []) (fuel := 700) emp248.1.2.2.2.2.2.1 ec248 (cCal_cons (cAl_cons (eor54.mono (by decide)) ewr54 (cAl_nil)) (cCal_nil)) (by decide +kernel)
/-- SpanCopierModel.dataOf(II)I -/
def enr86 : cCn := ((2, 1, ([(0, 0, 39), (1, 2, 3)], [], [(0, 12, 12, false, (0, []))], []), [(1, 0, (0, [])), (0, 0, (0, [(0, 1)])), (0, 0, (0, [(1, 1)]))]), (3, 1, ([], [], [], []), [(0, 0, (0, [(2, 1)]))]), [])
theorem ewr86 : cwCn enr86 = true := by decide +kernel
theorem eor86 : cOk cT0 ey259 3 2 0 0 enr86 := c_ok (d := 1) (Γ := eg259) (Ga := [[(0, 0, enr49)]]) (cr := []) (code := ek259) (ps := []) (fuel := 700) emp259.1.2.2.2.2.2.1 ec259 (cCal_cons (cAl_cons (eor49.mono (by decide)) ewr49 (cAl_nil)) (cCal_nil)) (by decide +kernel)
/-- SpanCopierModel.firstOf(I)I -/
def enr87 : cCn := ((1, 1, ([(0, 0, 39)], [], [(0, 12, 12, false, (0, []))], []), [(1, 0, (0, [])), (0, 0, (0, [(0, 1)]))]), (2, 1, ([], [], [], []), [(0, 0, (0, [(1, 1)]))]), [])
theorem ewr87 : cwCn enr87 = true := by decide +kernel
theorem eor87 : cOk cT0 ey260 3 2 0 0 enr87 := c_ok (d := 1) (Γ := eg260) (Ga := [[(0, 0, enr49)]]) (cr := []) (code := ek260) (ps := []) (fuel := 700) emp260.1.2.2.2.2.2.1 ec260 (cCal_cons (cAl_cons (eor49.mono (by decide)) ewr49 (cAl_nil)) (cCal_nil)) (by decide +kernel)
/-- SpanCopierModel.unit(II)I -/
def enr88 : cCn := ((2, 1, ([], [], [(0, 12, 12, false, (0, []))], []), [(1, 0, (0, [])), (0, 0, (0, [(0, 1)])), (0, 0, (0, [(1, 1)]))]), (3, 1, ([], [], [], []), [(0, 0, (0, [(2, 1)]))]), [(12, 0, 0)])
theorem ewr88 : cwCn enr88 = true := by decide +kernel
theorem eor88 : cOk cT0 ey261 3 3 0 0 enr88 := c_ok (d := 2) (Γ := eg261) (Ga := [[(0, 0, enr50)], [(0, 0, enr0)], [(0, 0, enr49)], [(0, 0, enr57)], [(0, 0, enr87)], [(0, 0, enr86)]]) (cr := []) (code := ek261) (ps := []) (fuel := 700) emp261.1.2.2.2.2.2.1 ec261 (cCal_cons (cAl_cons (eor50.mono (by decide)) ewr50 (cAl_nil)) (cCal_cons (cAl_cons (eor0.mono (by decide)) ewr0 (cAl_nil)) (cCal_cons (cAl_cons (eor49.mono (by decide)) ewr49 (cAl_nil)) (cCal_cons (cAl_cons (eor57.mono (by decide)) ewr57 (cAl_nil)) (cCal_cons (cAl_cons (eor87.mono (by decide)) ewr87 (cAl_nil)) (cCal_cons (cAl_cons (eor86.mono (by decide)) ewr86 (cAl_nil)) (cCal_nil))))))) (by decide +kernel)
/-- SpanCopierModel.taken(I)I -/
def enr91 : cCn := ((1, 1, ([], [], [(0, 12, 12, false, (0, []))], []), [(1, 0, (0, [])), (0, 0, (0, [(0, 1)]))]), (2, 1, ([], [], [], []), [(0, 0, (0, [(1, 1)]))]), [(12, 0, 0)])
theorem ewr91 : cwCn enr91 = true := by decide +kernel
theorem eor91 : cOk cT0 ey265 2 2 0 0 enr91 := c_ok (d := 1) (Γ := eg265) (Ga := [[(0, 0, enr8)]]) (cr := []) (code := ek265) (ps := []) (fuel := 700) emp265.1.2.2.2.2.2.1 ec265 (cCal_cons (cAl_cons (eor8.mono (by decide)) ewr8 (cAl_nil)) (cCal_nil)) (by decide +kernel)
/-- SpanCopierModel.sum(I)I -/
def enr92 : cCn := ((1, 1, ([], [], [(0, 12, 12, false, (0, []))], []), [(1, 0, (0, [])), (0, 0, (0, [(0, 1)]))]), (2, 1, ([], [], [], []), [(0, 0, (0, [(1, 1)]))]), [(12, 0, 0)])
theorem ewr92 : cwCn enr92 = true := by decide +kernel
theorem eor92 : cOk cT0 ey266 2 3 0 0 enr92 := c_ok (d := 2) (Γ := eg266) (Ga := [[(0, 0, enr43)], [(0, 0, enr44)], [(0, 0, enr0)]]) (cr := []) (code := ek266) (ps := []) (fuel := 700) emp266.1.2.2.2.2.2.1 ec266 (cCal_cons (cAl_cons (eor43.mono (by decide)) ewr43 (cAl_nil)) (cCal_cons (cAl_cons (eor44.mono (by decide)) ewr44 (cAl_nil)) (cCal_cons (cAl_cons (eor0.mono (by decide)) ewr0 (cAl_nil)) (cCal_nil)))) (by decide +kernel)
/-- SpanCopierModel.store()I -/
def enr93 : cCn := ((0, 1, ([], [], [(0, 12, 12, false, (0, []))], []), [(1, 0, (0, []))]), (1, 1, ([], [], [], []), [(0, 0, (0, [(0, 1)]))]), [(12, 0, 0)])
theorem ewr93 : cwCn enr93 = true := by decide +kernel
theorem eor93 : cOk cT0 ey267 1 1 0 0 enr93 := c_ok (d := 0) (Γ := eg267) (Ga := []) (cr := []) (code := ek267) (ps := []) (fuel := 700) emp267.1.2.2.2.2.2.1 ec267 (cCal_nil) (by decide +kernel)
/-- SpanCopierModel.journal(I)I -/
def enr94 : cCn := ((1, 1, ([], [], [(0, 12, 12, false, (0, []))], []), [(1, 0, (0, [])), (0, 0, (0, [(0, 1)]))]), (2, 1, ([], [], [], []), [(0, 0, (0, [(1, 1)]))]), [(12, 0, 0)])
theorem ewr94 : cwCn enr94 = true := by decide +kernel
theorem eor94 : cOk cT0 ey268 2 2 0 0 enr94 := c_ok (d := 1) (Γ := eg268) (Ga := [[(0, 0, enr8)]]) (cr := []) (code := ek268) (ps := []) (fuel := 700) emp268.1.2.2.2.2.2.1 ec268 (cCal_cons (cAl_cons (eor8.mono (by decide)) ewr8 (cAl_nil)) (cCal_nil)) (by decide +kernel)
/-- SpanCopierModel.isOver()Z -/
def enr95 : cCn := ((0, 1, ([], [], [(0, 12, 12, false, (0, []))], []), [(1, 0, (0, []))]), (1, 1, ([(0, 0, 1)], [], [], []), [(0, 0, (0, [(0, 1)]))]), [])
theorem ewr95 : cwCn enr95 = true := by decide +kernel
theorem eor95 : cOk cT0 ey270 1 1 0 0 enr95 := c_ok (d := 0) (Γ := eg270) (Ga := []) (cr := []) (code := ek270) (ps := []) (fuel := 700) emp270.1.2.2.2.2.2.1 ec270 (cCal_nil) (by decide +kernel)
/-- SpanCopierModel.overAs(I)I -/
def enr97 : cCn := ((1, 1, ([], [], [(0, 12, 12, false, (0, []))], []), [(1, 0, (0, [])), (0, 0, (0, [(0, 1)]))]), (2, 1, ([], [], [], []), [(0, 0, (0, [(1, 1)]))]), [(12, 0, 0)])
theorem ewr97 : cwCn enr97 = true := by decide +kernel
theorem eor97 : cOk cT0 ey272 2 2 0 0 enr97 := c_ok (d := 1) (Γ := eg272) (Ga := [[(0, 0, enr8)]]) (cr := []) (code := ek272) (ps := []) (fuel := 700) emp272.1.2.2.2.2.2.1 ec272 (cCal_cons (cAl_cons (eor8.mono (by decide)) ewr8 (cAl_nil)) (cCal_nil)) (by decide +kernel)
/-- SpanCopierModel.draw(I)I -/
def enr98 : cCn := ((1, 1, ([(0, 1, 2147483647)], [], [(0, 12, 12, false, (0, []))], []), [(1, 0, (0, [])), (0, 0, (0, [(0, 1)]))]), (2, 1, ([(1, 0, 2147483647)], [(-1, [(0, 1), (1, -1)])], [], []), [(0, 0, (0, [(1, 1)]))]), [(12, 29, 29)])
theorem ewr98 : cwCn enr98 = true := by decide +kernel
theorem eor98 : cOk cT0 ey273 2 1 0 0 enr98 := c_ok (d := 0) (Γ := eg273) (Ga := []) (cr := []) (code := ek273) (ps := []) (fuel := 700) emp273.1.2.2.2.2.2.1 ec273 (cCal_nil) (by decide +kernel)
/-- SpanCopierModel.told(I)I -/
def enr110 : cCn := ((1, 1, ([], [], [(0, 12, 12, false, (0, []))], []), [(1, 0, (0, [])), (0, 0, (0, [(0, 1)]))]), (2, 1, ([], [], [], []), [(0, 0, (0, [(1, 1)]))]), [(12, 0, 0)])
theorem ewr110 : cwCn enr110 = true := by decide +kernel
theorem eor110 : cOk cT0 ey285 2 2 0 0 enr110 := c_ok (d := 1) (Γ := eg285) (Ga := [[(0, 0, enr8)]]) (cr := []) (code := ek285) (ps := []) (fuel := 700) emp285.1.2.2.2.2.2.1 ec285 (cCal_cons (cAl_cons (eor8.mono (by decide)) ewr8 (cAl_nil)) (cCal_nil)) (by decide +kernel)
/-- SpanCopierModel.readOf(I)Z -/
def enr112 : cCn := ((1, 1, ([], [], [(0, 12, 12, false, (0, []))], []), [(1, 0, (0, [])), (0, 0, (0, [(0, 1)]))]), (2, 1, ([(1, 0, 1)], [], [], []), [(0, 0, (0, [(1, 1)]))]), [])
theorem ewr112 : cwCn enr112 = true := by decide +kernel
theorem eor112 : cOk cT0 ey292 2 1 0 0 enr112 := c_ok (d := 0) (Γ := eg292) (Ga := []) (cr := []) (code := ek292) (ps := []) (fuel := 700) emp292.1.2.2.2.2.2.1 ec292 (cCal_nil) (by decide +kernel)
/-- SpanCopierModel.count(I)I -/
def enr159 : cCn := ((1, 1, ([], [], [(0, 12, 12, false, (0, []))], []), [(1, 0, (0, [])), (0, 0, (0, [(0, 1)]))]), (2, 1, ([], [], [], []), [(0, 0, (0, [(1, 1)]))]), [(12, 0, 0)])
theorem ewr159 : cwCn enr159 = true := by decide +kernel
theorem eor159 : cOk cT0 ey299 2 1 0 0 enr159 := c_ok (d := 0) (Γ := eg299) (Ga := []) (cr := []) (code := ek299) (ps := []) (fuel := 700) emp299.1.2.2.2.2.2.1 ec299 (cCal_nil) (by decide +kernel)
