/-- Math.min(II)I+ -/
def enc0 : cCn := ((2, 0, ([(0, 0, 2147483647), (1, 0, 2147483647)], [], [], []), [(0, 0, (0, [(0, 1)])), (0, 0, (0, [(1, 1)]))]), (3, 0, ([(2, 0, 2147483647)], [(0, [(0, 1), (2, -1)]), (0, [(1, 1), (2, -1)])], [], []), [(0, 0, (0, [(2, 1)]))]), [])
theorem ewc0 : cwCn enc0 = true := by decide +kernel
theorem eoc0 : cOk cT0 ey301 2 1 0 0 enc0 := c_ok (d := 0) (Γ := eg301) (Ga := []) (cr := []) (code := ek301) (ps := []) (fuel := 700) emp301.1.2.2.2.2.2.1 ec301 (cCal_nil) (by decide +kernel)
/-- Math.min(II)I -/
def enc1 : cCn := ((2, 0, ([], [], [], []), [(0, 0, (0, [(0, 1)])), (0, 0, (0, [(1, 1)]))]), (3, 0, ([], [(0, [(0, 1), (2, -1)]), (0, [(1, 1), (2, -1)])], [], []), [(0, 0, (0, [(2, 1)]))]), [])
theorem ewc1 : cwCn enc1 = true := by decide +kernel
theorem eoc1 : cOk cT0 ey301 2 1 0 0 enc1 := c_ok (d := 0) (Γ := eg301) (Ga := []) (cr := []) (code := ek301) (ps := []) (fuel := 700) emp301.1.2.2.2.2.2.1 ec301 (cCal_nil) (by decide +kernel)
/-- Math.max(II)I -/
def enc2 : cCn := ((2, 0, ([], [], [], []), [(0, 0, (0, [(0, 1)])), (0, 0, (0, [(1, 1)]))]), (3, 0, ([], [(0, [(0, -1), (2, 1)]), (0, [(1, -1), (2, 1)])], [], []), [(0, 0, (0, [(2, 1)]))]), [])
theorem ewc2 : cwCn enc2 = true := by decide +kernel
theorem eoc2 : cOk cT0 ey300 2 1 0 0 enc2 := c_ok (d := 0) (Γ := eg300) (Ga := []) (cr := []) (code := ek300) (ps := []) (fuel := 700) emp300.1.2.2.2.2.2.1 ec300 (cCal_nil) (by decide +kernel)
/-- Arrays.fill([II)V54 -/
def enc3 : cCn := ((1, 1, ([], [], [(0, 21, 54, false, (3, []))], []), [(1, 0, (0, [])), (0, 0, (0, [(0, 1)]))]), (1, 1, ([], [], [], []), []), [(21, 0, 2)])
theorem ewc3 : cwCn enc3 = true := by decide +kernel
theorem eoc3 : cOk cT0 ey302 4 1 0 0 enc3 := c_ok (d := 0) (Γ := eg302) (Ga := []) (cr := []) (code := ek302) (ps := [(5, (2, 1, ([(1, 0, 30000)], [(3, [(1, -1)])], [(0, 21, 54, false, (3, []))], []), 0, 0), [(1, 0, (0, [])), (0, 0, (0, [(0, 1)])), (0, 0, (0, [(1, 1)])), (0, 0, (3, []))], [], [(30000, [(1, -1)]), (0, [(0, 1)])], [(1, 0, (0, []))])]) (fuel := 700) emp302.1.2.2.2.2.2.1 ec302 (cCal_nil) (by decide +kernel)
/-- Arrays.fill([II)V55 -/
def enc4 : cCn := ((1, 1, ([], [], [(0, 21, 55, false, (4, []))], []), [(1, 0, (0, [])), (0, 0, (0, [(0, 1)]))]), (1, 1, ([], [], [], []), []), [(21, 0, 3)])
theorem ewc4 : cwCn enc4 = true := by decide +kernel
theorem eoc4 : cOk cT0 ey302 4 1 0 0 enc4 := c_ok (d := 0) (Γ := eg302) (Ga := []) (cr := []) (code := ek302) (ps := [(5, (2, 1, ([(1, 0, 30000)], [(4, [(1, -1)])], [(0, 21, 55, false, (4, []))], []), 0, 0), [(1, 0, (0, [])), (0, 0, (0, [(0, 1)])), (0, 0, (0, [(1, 1)])), (0, 0, (4, []))], [], [(30000, [(1, -1)]), (0, [(0, 1)])], [(1, 0, (0, []))])]) (fuel := 700) emp302.1.2.2.2.2.2.1 ec302 (cCal_nil) (by decide +kernel)
/-- Arrays.fill([BB)V -/
def enc5 : cCn := ((1, 1, ([(0, -128, 127)], [], [(0, 22, 48, false, (240, []))], []), [(1, 0, (0, [])), (0, 0, (0, [(0, 1)]))]), (1, 1, ([], [], [], []), []), [(22, 0, 239)])
theorem ewc5 : cwCn enc5 = true := by decide +kernel
theorem eoc5 : cOk cT0 ey303 4 1 0 0 enc5 := c_ok (d := 0) (Γ := eg303) (Ga := []) (cr := []) (code := ek303) (ps := [(5, (2, 1, ([(0, -128, 127), (1, 0, 30000)], [(240, [(1, -1)])], [(0, 22, 48, false, (240, []))], []), 0, 0), [(1, 0, (0, [])), (0, 0, (0, [(0, 1)])), (0, 0, (0, [(1, 1)])), (0, 0, (240, []))], [], [(30000, [(1, -1)]), (0, [(0, 1)])], [(1, 0, (0, []))])]) (fuel := 700) emp303.1.2.2.2.2.2.1 ec303 (cCal_nil) (by decide +kernel)
/-- Arrays.copyOf([BI)[B -/
def enc6 : cCn := ((1, 1, ([(0, 1, 240)], [], [(0, 22, 51, false, (940, []))], []), [(1, 0, (0, [])), (0, 0, (0, [(0, 1)]))]), (2, 2, ([(1, 0, 240)], [], [(1, 22, 34, false, (0, [(1, 1)]))], []), [(1, 1, (0, []))]), [(22, 0, 2147483647)])
theorem ewc6 : cwCn enc6 = true := by decide +kernel
theorem eoc6 : cOk cT0 ey304 3 2 1 240 enc6 := c_ok (d := 1) (Γ := eg304) (Ga := [[(0, 0, enc0), (0, 0, enc1)]]) (cr := []) (code := ek304) (ps := []) (fuel := 700) emp304.1.2.2.2.2.2.1 ec304 (cCal_cons (cAl_cons (eoc0.mono (by decide)) ewc0 (cAl_cons (eoc1.mono (by decide)) ewc1 (cAl_nil))) (cCal_nil)) (by decide +kernel)
/-- Word.withLetter(JI)J -/
def enc7 : cCn := ((1, 0, ([], [], [], []), [(3, 0, (0, [])), (0, 0, (0, [(0, 1)]))]), (1, 0, ([], [], [], []), [(3, 0, (0, []))]), [])
theorem ewc7 : cwCn enc7 = true := by decide +kernel
theorem eoc7 : cOk cT0 ey105 3 1 0 0 enc7 := c_ok (d := 0) (Γ := eg105) (Ga := []) (cr := []) (code := ek105) (ps := []) (fuel := 700) emp105.1.2.2.2.2.2.1 ec105 (cCal_nil) (by decide +kernel)
/-- Tape.isBlank(I)Z -/
def enc8 : cCn := ((1, 0, ([], [], [], []), [(0, 0, (0, [(0, 1)]))]), (2, 0, ([(1, 0, 1)], [], [], []), [(0, 0, (0, [(1, 1)]))]), [])
theorem ewc8 : cwCn enc8 = true := by decide +kernel
theorem eoc8 : cOk cT0 ey98 1 1 0 0 enc8 := c_ok (d := 0) (Γ := eg98) (Ga := []) (cr := []) (code := ek98) (ps := []) (fuel := 700) emp98.1.2.2.2.2.2.1 ec98 (cCal_nil) (by decide +kernel)
/-- Tape.isLetter(I)Z -/
def enc9 : cCn := ((1, 0, ([], [], [], []), [(0, 0, (0, [(0, 1)]))]), (2, 0, ([(1, 0, 1)], [], [], []), [(0, 0, (0, [(1, 1)]))]), [])
theorem ewc9 : cwCn enc9 = true := by decide +kernel
theorem eoc9 : cOk cT0 ey99 1 1 0 0 enc9 := c_ok (d := 0) (Γ := eg99) (Ga := []) (cr := []) (code := ek99) (ps := []) (fuel := 700) emp99.1.2.2.2.2.2.1 ec99 (cCal_nil) (by decide +kernel)
/-- Tape.isDigit(I)Z -/
def enc10 : cCn := ((1, 0, ([], [], [], []), [(0, 0, (0, [(0, 1)]))]), (2, 0, ([(1, 0, 1)], [], [], []), [(0, 0, (0, [(1, 1)]))]), [])
theorem ewc10 : cwCn enc10 = true := by decide +kernel
theorem eoc10 : cOk cT0 ey100 1 1 0 0 enc10 := c_ok (d := 0) (Γ := eg100) (Ga := []) (cr := []) (code := ek100) (ps := []) (fuel := 700) emp100.1.2.2.2.2.2.1 ec100 (cCal_nil) (by decide +kernel)
/-- Tape.isCompare(I)Z -/
def enc11 : cCn := ((1, 0, ([], [], [], []), [(0, 0, (0, [(0, 1)]))]), (2, 0, ([(1, 0, 1)], [], [], []), [(0, 0, (0, [(1, 1)]))]), [])
theorem ewc11 : cwCn enc11 = true := by decide +kernel
theorem eoc11 : cOk cT0 ey102 1 1 0 0 enc11 := c_ok (d := 0) (Γ := eg102) (Ga := []) (cr := []) (code := ek102) (ps := []) (fuel := 700) emp102.1.2.2.2.2.2.1 ec102 (cCal_nil) (by decide +kernel)
/-- Tape.isSign(I)Z -/
def enc12 : cCn := ((1, 0, ([], [], [], []), [(0, 0, (0, [(0, 1)]))]), (2, 0, ([(1, 0, 1)], [], [], []), [(0, 0, (0, [(1, 1)]))]), [])
theorem ewc12 : cwCn enc12 = true := by decide +kernel
theorem eoc12 : cOk cT0 ey101 1 2 0 0 enc12 := c_ok (d := 1) (Γ := eg101) (Ga := [[(0, 0, enc11)]]) (cr := []) (code := ek101) (ps := []) (fuel := 700) emp101.1.2.2.2.2.2.1 ec101 (cCal_cons (cAl_cons (eoc11.mono (by decide)) ewc11 (cAl_nil)) (cCal_nil)) (by decide +kernel)
/-- Tape.byteAt(I)I -/
def enc13 : cCn := ((1, 1, ([], [], [(0, 9, 9, false, (0, []))], []), [(1, 0, (0, [])), (0, 0, (0, [(0, 1)]))]), (2, 1, ([], [], [], []), [(0, 0, (0, [(1, 1)]))]), [])
theorem ewc13 : cwCn enc13 = true := by decide +kernel
theorem eoc13 : cOk cT0 ey95 2 1 0 0 enc13 := c_ok (d := 0) (Γ := eg95) (Ga := []) (cr := []) (code := ek95) (ps := []) (fuel := 700) emp95.1.2.2.2.2.2.1 ec95 (cCal_nil) (by decide +kernel)
/-- Tape.put(I)V -/
def enc14 : cCn := ((1, 1, ([], [], [(0, 9, 9, false, (0, []))], []), [(1, 0, (0, [])), (0, 0, (0, [(0, 1)]))]), (1, 1, ([], [], [], []), []), [(9, 1, 1), (22, 0, 939)])
theorem ewc14 : cwCn enc14 = true := by decide +kernel
theorem eoc14 : cOk cT0 ey92 3 1 0 0 enc14 := c_ok (d := 0) (Γ := eg92) (Ga := []) (cr := []) (code := ek92) (ps := [(3, (2, 1, ([(1, -8, 24)], [], [(0, 9, 9, false, (0, []))], []), 0, 0), [(1, 0, (0, [])), (0, 0, (0, [(0, 1)])), (0, 0, (0, [(1, 1)]))], [], [(8, [(1, 1)]), (0, [(0, 1)])], [(1, 0, (0, []))])]) (fuel := 700) emp92.1.2.2.2.2.2.1 ec92 (cCal_nil) (by decide +kernel)
/-- Tape.fail(I)Z -/
def enc15 : cCn := ((1, 1, ([], [], [(0, 9, 9, false, (0, []))], []), [(1, 0, (0, [])), (0, 0, (0, [(0, 1)]))]), (2, 1, ([(1, 0, 0)], [], [], []), [(0, 0, (0, [(1, 1)]))]), [(9, 9, 10)])
theorem ewc15 : cwCn enc15 = true := by decide +kernel
theorem eoc15 : cOk cT0 ey94 2 1 0 0 enc15 := c_ok (d := 0) (Γ := eg94) (Ga := []) (cr := []) (code := ek94) (ps := []) (fuel := 700) emp94.1.2.2.2.2.2.1 ec94 (cCal_nil) (by decide +kernel)
/-- Tape.readRun()V -/
def enc16 : cCn := ((0, 1, ([], [], [(0, 9, 9, false, (0, []))], []), [(1, 0, (0, []))]), (0, 1, ([], [], [], []), []), [(9, 3, 4), (9, 6, 6), (9, 8, 8)])
theorem ewc16 : cwCn enc16 = true := by decide +kernel
theorem eoc16 : cOk cT0 ey97 4 2 0 0 enc16 := c_ok (d := 1) (Γ := eg97) (Ga := [[(0, 0, enc13)], [(0, 0, enc9)], [(0, 0, enc7)], [(0, 0, enc10)], [(0, 0, enw0)]]) (cr := []) (code := ek97) (ps := [(8, (3, 1, ([(0, 0, 940)], [], [(0, 9, 9, false, (0, []))], [(0, 3, (0, 0, (0, [(0, 1)])))]), 0, 0), [(1, 0, (0, [])), (0, 0, (0, [(1, 1)])), (0, 0, (0, [(2, 1)])), (4, 0, (0, []))], [(0, 0, (0, [(0, 1)]))], [(940, [(0, -1)])], [(1, 0, (0, []))])]) (fuel := 700) emp97.1.2.2.2.2.2.1 ec97 (cCal_cons (cAl_cons (eoc13.mono (by decide)) ewc13 (cAl_nil)) (cCal_cons (cAl_cons (eoc9.mono (by decide)) ewc9 (cAl_nil)) (cCal_cons (cAl_cons (eoc7.mono (by decide)) ewc7 (cAl_nil)) (cCal_cons (cAl_cons (eoc10.mono (by decide)) ewc10 (cAl_nil)) (cCal_cons (cAl_cons (eow0.mono (by decide)) eww0 (cAl_nil)) (cCal_nil)))))) (by decide +kernel)
/-- Tape.step()V -/
def enc17 : cCn := ((0, 1, ([], [], [(0, 9, 9, false, (0, []))], []), [(1, 0, (0, []))]), (0, 1, ([], [], [], []), []), [(9, 3, 6), (9, 8, 8)])
theorem ewc17 : cwCn enc17 = true := by decide +kernel
theorem eoc17 : cOk cT0 ey96 2 3 0 0 enc17 := c_ok (d := 2) (Γ := eg96) (Ga := [[(0, 0, enc13)], [(0, 0, enc8)], [(0, 0, enc9)], [(0, 0, enc10)], [(0, 0, enc16)], [(0, 0, enc12)]]) (cr := []) (code := ek96) (ps := [(4, (1, 1, ([(0, 0, 940)], [], [(0, 9, 9, false, (0, []))], [(0, 3, (0, 0, (0, [(0, 1)])))]), 0, 0), [(1, 0, (0, [])), (4, 0, (0, []))], [(0, 0, (0, [(0, 1)]))], [(940, [(0, -1)])], [(1, 0, (0, []))])]) (fuel := 700) emp96.1.2.2.2.2.2.1 ec96 (cCal_cons (cAl_cons (eoc13.mono (by decide)) ewc13 (cAl_nil)) (cCal_cons (cAl_cons (eoc8.mono (by decide)) ewc8 (cAl_nil)) (cCal_cons (cAl_cons (eoc9.mono (by decide)) ewc9 (cAl_nil)) (cCal_cons (cAl_cons (eoc10.mono (by decide)) ewc10 (cAl_nil)) (cCal_cons (cAl_cons (eoc16.mono (by decide)) ewc16 (cAl_nil)) (cCal_cons (cAl_cons (eoc12.mono (by decide)) ewc12 (cAl_nil)) (cCal_nil))))))) (by decide +kernel)
/-- Tape.open(I)V -/
def enc18 : cCn := ((1, 1, ([(0, 0, 940)], [], [(0, 9, 9, false, (0, []))], []), [(1, 0, (0, [])), (0, 0, (0, [(0, 1)]))]), (1, 1, ([], [], [], []), []), [(9, 2, 6), (9, 8, 10)])
theorem ewc18 : cwCn enc18 = true := by decide +kernel
theorem eoc18 : cOk cT0 ey93 2 4 0 0 enc18 := c_ok (d := 3) (Γ := eg93) (Ga := [[(0, 0, enc0), (0, 0, enc1)], [(0, 0, enc17)]]) (cr := []) (code := ek93) (ps := []) (fuel := 700) emp93.1.2.2.2.2.2.1 ec93 (cCal_cons (cAl_cons (eoc0.mono (by decide)) ewc0 (cAl_cons (eoc1.mono (by decide)) ewc1 (cAl_nil))) (cCal_cons (cAl_cons (eoc17.mono (by decide)) ewc17 (cAl_nil)) (cCal_nil))) (by decide +kernel)
/-- Tape.stepToNumber(II)Z -/
def enc19 : cCn := ((2, 1, ([], [], [(0, 9, 9, false, (0, []))], []), [(1, 0, (0, [])), (0, 0, (0, [(0, 1)])), (0, 0, (0, [(1, 1)]))]), (3, 1, ([(2, 0, 1)], [], [], []), [(0, 0, (0, [(2, 1)]))]), [(9, 3, 6), (9, 8, 10)])
theorem ewc19 : cwCn enc19 = true := by decide +kernel
theorem eoc19 : cOk cT0 ey103 3 4 0 0 enc19 := c_ok (d := 3) (Γ := eg103) (Ga := [[(0, 0, enc17)], [(0, 0, enc15)]]) (cr := []) (code := ek103) (ps := []) (fuel := 700) emp103.1.2.2.2.2.2.1 ec103 (cCal_cons (cAl_cons (eoc17.mono (by decide)) ewc17 (cAl_nil)) (cCal_cons (cAl_cons (eoc15.mono (by decide)) ewc15 (cAl_nil)) (cCal_nil))) (by decide +kernel)
/-- Tape.stepOverEnd()Z -/
def enc20 : cCn := ((0, 1, ([], [], [(0, 9, 9, false, (0, []))], []), [(1, 0, (0, []))]), (1, 1, ([(0, 0, 1)], [], [], []), [(0, 0, (0, [(0, 1)]))]), [(9, 3, 6), (9, 8, 10)])
theorem ewc20 : cwCn enc20 = true := by decide +kernel
theorem eoc20 : cOk cT0 ey104 1 4 0 0 enc20 := c_ok (d := 3) (Γ := eg104) (Ga := [[(0, 0, enc17)], [(0, 0, enc15)]]) (cr := []) (code := ek104) (ps := []) (fuel := 700) emp104.1.2.2.2.2.2.1 ec104 (cCal_cons (cAl_cons (eoc17.mono (by decide)) ewc17 (cAl_nil)) (cCal_cons (cAl_cons (eoc15.mono (by decide)) ewc15 (cAl_nil)) (cCal_nil))) (by decide +kernel)
/-- Tape.<init>()V -/
def enc21 : cCn := ((0, 1, ([], [], [(0, 9, 0, false, (0, []))], [(0, 0, (2, 0, (0, []))), (0, 1, (0, 0, (0, []))), (0, 2, (0, 0, (0, []))), (0, 3, (0, 0, (0, []))), (0, 4, (0, 0, (0, []))), (0, 5, (0, 0, (0, []))), (0, 6, (0, 0, (0, []))), (0, 7, (0, 0, (0, []))), (0, 8, (2, 0, (0, []))), (0, 9, (0, 0, (0, []))), (0, 10, (0, 0, (0, [])))]), [(1, 0, (0, []))]), (0, 1, ([], [], [(0, 9, 9, false, (0, []))], []), []), [(9, 0, 0), (9, 8, 8), (1009, 0, 0)])
theorem ewc21 : cwCn enc21 = true := by decide +kernel
theorem eoc21 : cOk cT0 ey91 1 1 1 940 enc21 := c_ok (d := 0) (Γ := eg91) (Ga := []) (cr := [(0, 9, 9)]) (code := ek91) (ps := []) (fuel := 700) emp91.1.2.2.2.2.2.1 ec91 (cCal_nil) (by decide +kernel)
/-- Order.<init>()V -/
def enc22 : cCn := ((0, 1, ([], [], [(0, 3, 0, false, (0, []))], [(0, 0, (2, 0, (0, []))), (0, 1, (2, 0, (0, []))), (0, 2, (2, 0, (0, []))), (0, 3, (2, 0, (0, []))), (0, 4, (2, 0, (0, []))), (0, 5, (0, 0, (0, []))), (0, 6, (0, 0, (0, []))), (0, 7, (0, 0, (0, []))), (0, 8, (0, 0, (0, []))), (0, 9, (0, 0, (0, []))), (0, 10, (0, 0, (0, [])))]), [(1, 0, (0, []))]), (0, 1, ([], [], [(0, 3, 3, false, (0, []))], []), []), [(3, 0, 5), (21, 0, 6), (25, 0, 5), (1003, 0, 0), (1025, 0, 0)])
theorem ewc22 : cwCn enc22 = true := by decide +kernel
theorem eoc22 : cOk cT0 ey20 2 1 5 34 enc22 := c_ok (d := 0) (Γ := eg20) (Ga := []) (cr := [(3, 25, 43), (0, 3, 3)]) (code := ek20) (ps := []) (fuel := 700) emp20.1.2.2.2.2.2.1 ec20 (cCal_nil) (by decide +kernel)
/-- Order.setting(I)I -/
def enc23 : cCn := ((1, 1, ([], [], [(0, 3, 3, false, (0, []))], []), [(1, 0, (0, [])), (0, 0, (0, [(0, 1)]))]), (2, 1, ([], [], [], []), [(0, 0, (0, [(1, 1)]))]), [])
theorem ewc23 : cwCn enc23 = true := by decide +kernel
theorem eoc23 : cOk cT0 ey21 2 1 0 0 enc23 := c_ok (d := 0) (Γ := eg21) (Ga := []) (cr := []) (code := ek21) (ps := []) (fuel := 700) emp21.1.2.2.2.2.2.1 ec21 (cCal_nil) (by decide +kernel)
/-- Order.isToldFirst(LSpanCopier.Tape;I)Z -/
def enc24 : cCn := ((1, 2, ([], [], [(0, 3, 3, false, (0, [])), (1, 9, 9, false, (0, []))], []), [(1, 0, (0, [])), (1, 1, (0, [])), (0, 0, (0, [(0, 1)]))]), (2, 2, ([(1, 0, 1)], [], [], []), [(0, 0, (0, [(1, 1)]))]), [(3, 9, 9), (9, 9, 10)])
theorem ewc24 : cwCn enc24 = true := by decide +kernel
theorem eoc24 : cOk cT0 ey25 3 2 0 0 enc24 := c_ok (d := 1) (Γ := eg25) (Ga := [[(0, 0, enc15)]]) (cr := []) (code := ek25) (ps := []) (fuel := 700) emp25.1.2.2.2.2.2.1 ec25 (cCal_cons (cAl_cons (eoc15.mono (by decide)) ewc15 (cAl_nil)) (cCal_nil)) (by decide +kernel)
/-- Order.readSetting(LSpanCopier.Tape;I)Z -/
def enc25 : cCn := ((1, 2, ([], [], [(0, 3, 3, false, (0, [])), (1, 9, 9, false, (0, []))], []), [(1, 0, (0, [])), (1, 1, (0, [])), (0, 0, (0, [(0, 1)]))]), (2, 2, ([(1, 0, 1)], [], [], []), [(0, 0, (0, [(1, 1)]))]), [(3, 9, 9), (9, 3, 6), (9, 8, 10), (21, 0, 5)])
theorem ewc25 : cwCn enc25 = true := by decide +kernel
theorem eoc25 : cOk cT0 ey24 3 5 0 0 enc25 := c_ok (d := 4) (Γ := eg24) (Ga := [[(0, 0, enc24)], [(0, 0, enc19)]]) (cr := []) (code := ek24) (ps := []) (fuel := 700) emp24.1.2.2.2.2.2.1 ec24 (cCal_cons (cAl_cons (eoc24.mono (by decide)) ewc24 (cAl_nil)) (cCal_cons (cAl_cons (eoc19.mono (by decide)) ewc19 (cAl_nil)) (cCal_nil))) (by decide +kernel)
/-- Order.readPolicy(LSpanCopier.Tape;)Z -/
def enc26 : cCn := ((0, 2, ([], [], [(0, 3, 3, false, (0, [])), (1, 9, 9, false, (0, []))], []), [(1, 0, (0, [])), (1, 1, (0, []))]), (1, 2, ([(0, 0, 1)], [], [], []), [(0, 0, (0, [(0, 1)]))]), [(3, 9, 9), (9, 3, 6), (9, 8, 10), (21, 1, 1)])
theorem ewc26 : cwCn enc26 = true := by decide +kernel
theorem eoc26 : cOk cT0 ey26 2 4 0 0 enc26 := c_ok (d := 3) (Γ := eg26) (Ga := [[(0, 0, enc24)], [(0, 0, enc17)], [(0, 0, enc15)]]) (cr := []) (code := ek26) (ps := []) (fuel := 700) emp26.1.2.2.2.2.2.1 ec26 (cCal_cons (cAl_cons (eoc24.mono (by decide)) ewc24 (cAl_nil)) (cCal_cons (cAl_cons (eoc17.mono (by decide)) ewc17 (cAl_nil)) (cCal_cons (cAl_cons (eoc15.mono (by decide)) ewc15 (cAl_nil)) (cCal_nil)))) (by decide +kernel)
/-- Order.readName(LSpanCopier.Tape;)Z -/
def enc27 : cCn := ((0, 2, ([], [], [(0, 3, 3, false, (0, [])), (1, 9, 9, false, (0, []))], []), [(1, 0, (0, [])), (1, 1, (0, []))]), (1, 2, ([(0, 0, 1)], [], [], []), [(0, 0, (0, [(0, 1)]))]), [(3, 6, 6), (3, 10, 10), (9, 3, 6), (9, 8, 10)])
theorem ewc27 : cwCn enc27 = true := by decide +kernel
theorem eoc27 : cOk cT0 ey30 2 4 0 0 enc27 := c_ok (d := 3) (Γ := eg30) (Ga := [[(0, 0, enc17)], [(0, 0, enc15)]]) (cr := []) (code := ek30) (ps := [(33, (1, 2, ([(0, 0, 10)], [], [(0, 3, 3, false, (0, [])), (1, 9, 9, false, (0, []))], [(0, 10, (0, 0, (0, [(0, 1)])))]), 0, 0), [(1, 0, (0, [])), (1, 1, (0, []))], [], [(10, [(0, -1)])], [(1, 0, (0, [])), (1, 1, (0, []))])]) (fuel := 700) emp30.1.2.2.2.2.2.1 ec30 (cCal_cons (cAl_cons (eoc17.mono (by decide)) ewc17 (cAl_nil)) (cCal_cons (cAl_cons (eoc15.mono (by decide)) ewc15 (cAl_nil)) (cCal_nil))) (by decide +kernel)
/-- Order.readTo(LSpanCopier.Tape;)Z -/
def enc28 : cCn := ((0, 2, ([], [], [(0, 3, 3, false, (0, [])), (1, 9, 9, false, (0, []))], []), [(1, 0, (0, [])), (1, 1, (0, []))]), (1, 2, ([(0, 0, 1)], [], [], []), [(0, 0, (0, [(0, 1)]))]), [(3, 5, 6), (3, 9, 10), (9, 3, 6), (9, 8, 10)])
theorem ewc28 : cwCn enc28 = true := by decide +kernel
theorem eoc28 : cOk cT0 ey27 2 5 0 0 enc28 := c_ok (d := 4) (Γ := eg27) (Ga := [[(0, 0, enc24)], [(0, 0, enc27)]]) (cr := []) (code := ek27) (ps := []) (fuel := 700) emp27.1.2.2.2.2.2.1 ec27 (cCal_cons (cAl_cons (eoc24.mono (by decide)) ewc24 (cAl_nil)) (cCal_cons (cAl_cons (eoc27.mono (by decide)) ewc27 (cAl_nil)) (cCal_nil))) (by decide +kernel)
/-- Order.readHas(LSpanCopier.Tape;)Z -/
def enc29 : cCn := ((0, 2, ([], [], [(0, 3, 3, false, (0, [])), (1, 9, 9, false, (0, []))], []), [(1, 0, (0, [])), (1, 1, (0, []))]), (1, 2, ([(0, 0, 1)], [], [], []), [(0, 0, (0, [(0, 1)]))]), [(3, 6, 6), (3, 8, 8), (3, 10, 10), (9, 3, 6), (9, 8, 10)])
theorem ewc29 : cwCn enc29 = true := by decide +kernel
theorem eoc29 : cOk cT0 ey28 2 5 0 0 enc29 := c_ok (d := 4) (Γ := eg28) (Ga := [[(0, 0, enc27)], [(0, 0, enc15)]]) (cr := []) (code := ek28) (ps := []) (fuel := 700) emp28.1.2.2.2.2.2.1 ec28 (cCal_cons (cAl_cons (eoc27.mono (by decide)) ewc27 (cAl_nil)) (cCal_cons (cAl_cons (eoc15.mono (by decide)) ewc15 (cAl_nil)) (cCal_nil))) (by decide +kernel)
/-- Order.readAct(LSpanCopier.Tape;)Z -/
def enc30 : cCn := ((0, 2, ([], [], [(0, 3, 3, false, (0, [])), (1, 9, 9, false, (0, []))], []), [(1, 0, (0, [])), (1, 1, (0, []))]), (1, 2, ([(0, 0, 1)], [], [], []), [(0, 0, (0, [(0, 1)]))]), [(3, 6, 7), (3, 10, 10), (9, 3, 6), (9, 8, 10), (21, 0, 5), (25, 0, 5)])
theorem ewc30 : cwCn enc30 = true := by decide +kernel
theorem eoc30 : cOk cT0 ey29 5 5 0 0 enc30 := c_ok (d := 4) (Γ := eg29) (Ga := [[(0, 0, enc15)], [(0, 0, enc17)], [(0, 0, enc27)]]) (cr := []) (code := ek29) (ps := []) (fuel := 700) emp29.1.2.2.2.2.2.1 ec29 (cCal_cons (cAl_cons (eoc15.mono (by decide)) ewc15 (cAl_nil)) (cCal_cons (cAl_cons (eoc17.mono (by decide)) ewc17 (cAl_nil)) (cCal_cons (cAl_cons (eoc27.mono (by decide)) ewc27 (cAl_nil)) (cCal_nil)))) (by decide +kernel)
/-- Order.readLine(LSpanCopier.Tape;)Z -/
def enc31 : cCn := ((0, 2, ([], [], [(0, 3, 3, false, (0, [])), (1, 9, 9, false, (0, []))], []), [(1, 0, (0, [])), (1, 1, (0, []))]), (1, 2, ([(0, 0, 1)], [], [], []), [(0, 0, (0, [(0, 1)]))]), [(3, 5, 10), (9, 3, 6), (9, 8, 10), (21, 0, 5), (25, 0, 5)])
theorem ewc31 : cwCn enc31 = true := by decide +kernel
theorem eoc31 : cOk cT0 ey23 2 6 0 0 enc31 := c_ok (d := 5) (Γ := eg23) (Ga := [[(0, 0, enc25)], [(0, 0, enc26)], [(0, 0, enc28)], [(0, 0, enc29)], [(0, 0, enc30)], [(0, 0, enc15)]]) (cr := []) (code := ek23) (ps := []) (fuel := 700) emp23.1.2.2.2.2.2.1 ec23 (cCal_cons (cAl_cons (eoc25.mono (by decide)) ewc25 (cAl_nil)) (cCal_cons (cAl_cons (eoc26.mono (by decide)) ewc26 (cAl_nil)) (cCal_cons (cAl_cons (eoc28.mono (by decide)) ewc28 (cAl_nil)) (cCal_cons (cAl_cons (eoc29.mono (by decide)) ewc29 (cAl_nil)) (cCal_cons (cAl_cons (eoc30.mono (by decide)) ewc30 (cAl_nil)) (cCal_cons (cAl_cons (eoc15.mono (by decide)) ewc15 (cAl_nil)) (cCal_nil))))))) (by decide +kernel)
/-- Order.readLines(LSpanCopier.Tape;)I -/
def enc32 : cCn := ((0, 2, ([], [], [(0, 3, 3, false, (0, [])), (1, 9, 9, false, (0, []))], []), [(1, 0, (0, [])), (1, 1, (0, []))]), (1, 2, ([], [], [], []), [(0, 0, (0, [(0, 1)]))]), [(3, 5, 10), (9, 3, 6), (9, 8, 10), (21, 0, 5), (25, 0, 5)])
theorem ewc32 : cwCn enc32 = true := by decide +kernel
theorem eoc32 : cOk cT0 ey22 3 7 0 0 enc32 := c_ok (d := 6) (Γ := eg22) (Ga := [[(0, 0, enc31)], [(0, 0, enc20)]]) (cr := []) (code := ek22) (ps := [(2, (1, 2, ([(0, 0, 900)], [], [(0, 3, 3, false, (0, [])), (1, 9, 9, false, (0, []))], []), 0, 0), [(1, 0, (0, [])), (1, 1, (0, [])), (0, 0, (0, [(0, 1)]))], [], [(900, [(0, -1)])], [(1, 0, (0, [])), (1, 1, (0, []))])]) (fuel := 700) emp22.1.2.2.2.2.2.1 ec22 (cCal_cons (cAl_cons (eoc31.mono (by decide)) ewc31 (cAl_nil)) (cCal_cons (cAl_cons (eoc20.mono (by decide)) ewc20 (cAl_nil)) (cCal_nil))) (by decide +kernel)
/-- Book.<init>()V -/
def enc33 : cCn := ((0, 1, ([], [], [(0, 1, 0, false, (0, []))], [(0, 0, (2, 0, (0, []))), (0, 1, (2, 0, (0, []))), (0, 2, (2, 0, (0, []))), (0, 3, (0, 0, (0, [])))]), [(1, 0, (0, []))]), (0, 1, ([], [], [(0, 1, 1, false, (0, []))], []), []), [(1, 0, 2), (25, 0, 39), (1001, 0, 0), (1025, 0, 0)])
theorem ewc33 : cwCn enc33 = true := by decide +kernel
theorem eoc33 : cOk cT0 ey0 2 1 3 120 enc33 := c_ok (d := 0) (Γ := eg0) (Ga := []) (cr := [(1, 25, 46), (0, 1, 1)]) (code := ek0) (ps := []) (fuel := 700) emp0.1.2.2.2.2.2.1 ec0 (cCal_nil) (by decide +kernel)
/-- Book.takesUnit(LSpanCopier.Word;)Z -/
def enc34 : cCn := ((0, 1, ([], [], [(0, 30, 30, false, (0, []))], []), [(1, 0, (0, []))]), (1, 1, ([(0, 0, 1)], [], [], []), [(0, 0, (0, [(0, 1)]))]), [])
theorem ewc34 : cwCn enc34 = true := by decide +kernel
theorem eoc34 : cOk cT0 ey3 1 1 0 0 enc34 := c_ok (d := 0) (Γ := eg3) (Ga := []) (cr := []) (code := ek3) (ps := []) (fuel := 700) emp3.1.2.2.2.2.2.1 ec3 (cCal_nil) (by decide +kernel)
/-- Book.takesTicks(LSpanCopier.Word;)Z -/
def enc35 : cCn := ((0, 1, ([], [], [(0, 30, 30, false, (0, []))], []), [(1, 0, (0, []))]), (1, 1, ([(0, 0, 1)], [], [], []), [(0, 0, (0, [(0, 1)]))]), [])
theorem ewc35 : cwCn enc35 = true := by decide +kernel
theorem eoc35 : cOk cT0 ey4 1 1 0 0 enc35 := c_ok (d := 0) (Γ := eg4) (Ga := []) (cr := []) (code := ek4) (ps := []) (fuel := 700) emp4.1.2.2.2.2.2.1 ec4 (cCal_nil) (by decide +kernel)
/-- Book.readLine(LSpanCopier.Tape;I)Z -/
def enc36 : cCn := ((1, 2, ([], [], [(0, 1, 1, false, (0, [])), (1, 9, 9, false, (0, []))], []), [(1, 0, (0, [])), (1, 1, (0, [])), (0, 0, (0, [(0, 1)]))]), (2, 2, ([(1, 0, 1)], [], [], []), [(0, 0, (0, [(1, 1)]))]), [(9, 3, 6), (9, 8, 10), (21, 0, 39), (25, 0, 39)])
theorem ewc36 : cwCn enc36 = true := by decide +kernel
theorem eoc36 : cOk cT0 ey2 4 5 0 0 enc36 := c_ok (d := 4) (Γ := eg2) (Ga := [[(0, 0, enc34)], [(0, 0, enc35)], [(0, 0, enc15)], [(0, 0, enc19)]]) (cr := []) (code := ek2) (ps := []) (fuel := 700) emp2.1.2.2.2.2.2.1 ec2 (cCal_cons (cAl_cons (eoc34.mono (by decide)) ewc34 (cAl_nil)) (cCal_cons (cAl_cons (eoc35.mono (by decide)) ewc35 (cAl_nil)) (cCal_cons (cAl_cons (eoc15.mono (by decide)) ewc15 (cAl_nil)) (cCal_cons (cAl_cons (eoc19.mono (by decide)) ewc19 (cAl_nil)) (cCal_nil))))) (by decide +kernel)
/-- Book.readLines(LSpanCopier.Tape;)Z -/
def enc37 : cCn := ((0, 2, ([], [], [(0, 1, 1, false, (0, [])), (1, 9, 9, false, (0, []))], []), [(1, 0, (0, [])), (1, 1, (0, []))]), (1, 2, ([(0, 0, 1)], [], [], []), [(0, 0, (0, [(0, 1)]))]), [(1, 3, 3), (9, 3, 6), (9, 8, 10), (21, 0, 39), (25, 0, 39)])
theorem ewc37 : cwCn enc37 = true := by decide +kernel
theorem eoc37 : cOk cT0 ey1 3 6 0 0 enc37 := c_ok (d := 5) (Γ := eg1) (Ga := [[(0, 0, enc36)], [(0, 0, enc20)]]) (cr := []) (code := ek1) (ps := [(7, (1, 2, ([(0, 0, 41)], [], [(0, 1, 1, false, (0, [])), (1, 9, 9, false, (0, []))], []), 0, 0), [(1, 0, (0, [])), (1, 1, (0, [])), (0, 0, (0, [(0, 1)]))], [], [(41, [(0, -1)])], [(1, 0, (0, [])), (1, 1, (0, []))])]) (fuel := 700) emp1.1.2.2.2.2.2.1 ec1 (cCal_cons (cAl_cons (eoc36.mono (by decide)) ewc36 (cAl_nil)) (cCal_cons (cAl_cons (eoc20.mono (by decide)) ewc20 (cAl_nil)) (cCal_nil))) (by decide +kernel)
/-- Places.<init>()V -/
def enc38 : cCn := ((0, 1, ([], [], [(0, 4, 0, false, (0, []))], [(0, 0, (2, 0, (0, []))), (0, 1, (0, 0, (0, [])))]), [(1, 0, (0, []))]), (0, 1, ([], [], [(0, 4, 4, false, (0, []))], []), []), [(4, 0, 0), (1004, 0, 0)])
theorem ewc38 : cwCn enc38 = true := by decide +kernel
theorem eoc38 : cOk cT0 ey31 1 1 1 240 enc38 := c_ok (d := 0) (Γ := eg31) (Ga := []) (cr := [(0, 4, 4)]) (code := ek31) (ps := []) (fuel := 700) emp31.1.2.2.2.2.2.1 ec31 (cCal_nil) (by decide +kernel)
/-- Places.copyFrom(LSpanCopier.Places;)V -/
def enc39 : cCn := ((0, 2, ([], [], [(0, 4, 4, false, (0, [])), (1, 4, 4, false, (0, []))], []), [(1, 0, (0, [])), (1, 1, (0, []))]), (0, 2, ([], [], [], []), []), [(4, 1, 1), (22, 0, 240)])
theorem ewc39 : cwCn enc39 = true := by decide +kernel
theorem eoc39 : cOk cT0 ey32 2 1 0 0 enc39 := c_ok (d := 0) (Γ := eg32) (Ga := []) (cr := []) (code := ek32) (ps := []) (fuel := 700) emp32.1.2.2.2.2.2.1 ec32 (cCal_nil) (by decide +kernel)
/-- Places.clear()V -/
def enc40 : cCn := ((0, 1, ([], [], [(0, 4, 4, false, (0, []))], []), [(1, 0, (0, []))]), (0, 1, ([], [], [], []), []), [(4, 1, 1), (22, 0, 239)])
theorem ewc40 : cwCn enc40 = true := by decide +kernel
theorem eoc40 : cOk cT0 ey33 1 2 0 0 enc40 := c_ok (d := 1) (Γ := eg33) (Ga := [[(0, 0, enc5)]]) (cr := []) (code := ek33) (ps := []) (fuel := 700) emp33.1.2.2.2.2.2.1 ec33 (cCal_cons (cAl_cons (eoc5.mono (by decide)) ewc5 (cAl_nil)) (cCal_nil)) (by decide +kernel)
/-- Places.has(I)Z -/
def enc41 : cCn := ((1, 1, ([], [], [(0, 4, 4, false, (0, []))], []), [(1, 0, (0, [])), (0, 0, (0, [(0, 1)]))]), (2, 1, ([(1, 0, 1)], [], [], []), [(0, 0, (0, [(1, 1)]))]), [])
theorem ewc41 : cwCn enc41 = true := by decide +kernel
theorem eoc41 : cOk cT0 ey34 2 1 0 0 enc41 := c_ok (d := 0) (Γ := eg34) (Ga := []) (cr := []) (code := ek34) (ps := []) (fuel := 700) emp34.1.2.2.2.2.2.1 ec34 (cCal_nil) (by decide +kernel)
/-- Places.mark(II)V -/
def enc42 : cCn := ((2, 1, ([], [], [(0, 4, 4, false, (0, []))], []), [(1, 0, (0, [])), (0, 0, (0, [(0, 1)])), (0, 0, (0, [(1, 1)]))]), (2, 1, ([], [], [], []), []), [(4, 1, 1), (22, 0, 239)])
theorem ewc42 : cwCn enc42 = true := by decide +kernel
theorem eoc42 : cOk cT0 ey35 4 2 0 0 enc42 := c_ok (d := 1) (Γ := eg35) (Ga := [[(0, 0, enc2)]]) (cr := []) (code := ek35) (ps := [(6, (3, 1, ([(2, 0, 2147483647)], [], [(0, 4, 4, false, (0, []))], []), 0, 0), [(1, 0, (0, [])), (0, 0, (0, [(0, 1)])), (0, 0, (0, [(1, 1)])), (0, 0, (0, [(2, 1)]))], [], [(2147483647, [(2, -1)]), (0, [(0, 1)]), (0, [(1, 1)])], [(1, 0, (0, []))])]) (fuel := 700) emp35.1.2.2.2.2.2.1 ec35 (cCal_cons (cAl_cons (eoc2.mono (by decide)) ewc2 (cAl_nil)) (cCal_nil)) (by decide +kernel)
/-- Places.unmark(II)Z -/
def enc43 : cCn := ((2, 1, ([], [], [(0, 4, 4, false, (0, []))], []), [(1, 0, (0, [])), (0, 0, (0, [(0, 1)])), (0, 0, (0, [(1, 1)]))]), (3, 1, ([(2, 0, 1)], [], [], []), [(0, 0, (0, [(2, 1)]))]), [(4, 1, 1), (22, 0, 239)])
theorem ewc43 : cwCn enc43 = true := by decide +kernel
theorem eoc43 : cOk cT0 ey36 5 2 0 0 enc43 := c_ok (d := 1) (Γ := eg36) (Ga := [[(0, 0, enc2)]]) (cr := []) (code := ek36) (ps := [(12, (4, 1, ([(3, 0, 2147483647)], [], [(0, 4, 4, false, (0, []))], []), 0, 0), [(1, 0, (0, [])), (0, 0, (0, [(0, 1)])), (0, 0, (0, [(1, 1)])), (0, 0, (0, [(2, 1)])), (0, 0, (0, [(3, 1)]))], [], [(2147483647, [(3, -1)]), (0, [(0, 1)]), (0, [(1, 1)])], [(1, 0, (0, []))])]) (fuel := 700) emp36.1.2.2.2.2.2.1 ec36 (cCal_cons (cAl_cons (eoc2.mono (by decide)) ewc2 (cAl_nil)) (cCal_nil)) (by decide +kernel)
/-- Places.nextFrom(I)I -/
def enc44 : cCn := ((1, 1, ([], [], [(0, 4, 4, false, (0, []))], []), [(1, 0, (0, [])), (0, 0, (0, [(0, 1)]))]), (2, 1, ([], [], [], []), [(0, 0, (0, [(1, 1)]))]), [])
theorem ewc44 : cwCn enc44 = true := by decide +kernel
theorem eoc44 : cOk cT0 ey37 3 1 0 0 enc44 := c_ok (d := 0) (Γ := eg37) (Ga := []) (cr := []) (code := ek37) (ps := [(23, (2, 1, ([(1, 0, 2147483647)], [], [(0, 4, 4, false, (0, []))], []), 0, 0), [(1, 0, (0, [])), (0, 0, (0, [(0, 1)])), (0, 0, (0, [(1, 1)]))], [], [(2147483647, [(1, -1)]), (0, [(0, 1)])], [(1, 0, (0, []))])]) (fuel := 700) emp37.1.2.2.2.2.2.1 ec37 (cCal_nil) (by decide +kernel)
