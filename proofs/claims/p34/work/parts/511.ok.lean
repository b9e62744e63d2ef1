/-- Places.endOf(I)I -/
def enc45 : cCn := ((1, 1, ([], [], [(0, 4, 4, false, (0, []))], []), [(1, 0, (0, [])), (0, 0, (0, [(0, 1)]))]), (2, 1, ([], [], [], []), [(0, 0, (0, [(1, 1)]))]), [])
theorem ewc45 : cwCn enc45 = true := by decide +kernel
theorem eoc45 : cOk cT0 ey38 3 1 0 0 enc45 := c_ok (d := 0) (Γ := eg38) (Ga := []) (cr := []) (code := ek38) (ps := [(10, (2, 1, ([(1, 0, 2147483647)], [], [(0, 4, 4, false, (0, []))], []), 0, 0), [(1, 0, (0, [])), (0, 0, (0, [(0, 1)])), (0, 0, (0, [(1, 1)]))], [], [(2147483647, [(1, -1)]), (0, [(0, 1)])], [(1, 0, (0, []))])]) (fuel := 700) emp38.1.2.2.2.2.2.1 ec38 (cCal_nil) (by decide +kernel)
/-- Places.startsSpan(I)Z -/
def enc46 : cCn := ((1, 1, ([], [], [(0, 4, 4, false, (0, []))], []), [(1, 0, (0, [])), (0, 0, (0, [(0, 1)]))]), (2, 1, ([(1, 0, 1)], [], [], []), [(0, 0, (0, [(1, 1)]))]), [])
theorem ewc46 : cwCn enc46 = true := by decide +kernel
theorem eoc46 : cOk cT0 ey39 2 2 0 0 enc46 := c_ok (d := 1) (Γ := eg39) (Ga := [[(0, 0, enc41)]]) (cr := []) (code := ek39) (ps := []) (fuel := 700) emp39.1.2.2.2.2.2.1 ec39 (cCal_cons (cAl_cons (eoc41.mono (by decide)) ewc41 (cAl_nil)) (cCal_nil)) (by decide +kernel)
/-- Places.countSpans()I -/
def enc47 : cCn := ((0, 1, ([], [], [(0, 4, 4, false, (0, []))], []), [(1, 0, (0, []))]), (1, 1, ([], [], [], []), [(0, 0, (0, [(0, 1)]))]), [])
theorem ewc47 : cwCn enc47 = true := by decide +kernel
theorem eoc47 : cOk cT0 ey40 3 3 0 0 enc47 := c_ok (d := 2) (Γ := eg40) (Ga := [[(0, 0, enc46)]]) (cr := []) (code := ek40) (ps := [(4, (2, 1, ([(1, 0, 240)], [], [(0, 4, 4, false, (0, []))], []), 0, 0), [(1, 0, (0, [])), (0, 0, (0, [(0, 1)])), (0, 0, (0, [(1, 1)]))], [], [(240, [(1, -1)])], [(1, 0, (0, []))])]) (fuel := 700) emp40.1.2.2.2.2.2.1 ec40 (cCal_cons (cAl_cons (eoc46.mono (by decide)) ewc46 (cAl_nil)) (cCal_nil)) (by decide +kernel)
/-- Places.edge(II)I -/
def enc48 : cCn := ((2, 1, ([], [], [(0, 4, 4, false, (0, []))], []), [(1, 0, (0, [])), (0, 0, (0, [(0, 1)])), (0, 0, (0, [(1, 1)]))]), (3, 1, ([], [], [], []), [(0, 0, (0, [(2, 1)]))]), [])
theorem ewc48 : cwCn enc48 = true := by decide +kernel
theorem eoc48 : cOk cT0 ey41 5 3 0 0 enc48 := c_ok (d := 2) (Γ := eg41) (Ga := [[(0, 0, enc46)], [(0, 0, enc45)]]) (cr := []) (code := ek41) (ps := [(20, (4, 1, ([(3, 0, 240)], [], [(0, 4, 4, false, (0, []))], []), 0, 0), [(1, 0, (0, [])), (0, 0, (0, [(0, 1)])), (0, 0, (0, [(1, 1)])), (0, 0, (0, [(2, 1)])), (0, 0, (0, [(3, 1)]))], [], [(240, [(3, -1)]), (0, [(0, 1)]), (0, [(1, 1)])], [(1, 0, (0, []))])]) (fuel := 700) emp41.1.2.2.2.2.2.1 ec41 (cCal_cons (cAl_cons (eoc46.mono (by decide)) ewc46 (cAl_nil)) (cCal_cons (cAl_cons (eoc45.mono (by decide)) ewc45 (cAl_nil)) (cCal_nil))) (by decide +kernel)
/-- Link.<init>()V -/
def enc49 : cCn := ((0, 1, ([], [], [(0, 2, 0, false, (0, []))], [(0, 0, (2, 0, (0, []))), (0, 1, (2, 0, (0, []))), (0, 2, (0, 0, (0, []))), (0, 3, (0, 0, (0, []))), (0, 4, (0, 0, (0, [])))]), [(1, 0, (0, []))]), (0, 1, ([], [], [(0, 2, 2, false, (0, []))], []), []), [(2, 0, 1), (1002, 0, 0)])
theorem ewc49 : cwCn enc49 = true := by decide +kernel
theorem eoc49 : cOk cT0 ey5 1 1 2 533 enc49 := c_ok (d := 0) (Γ := eg5) (Ga := []) (cr := [(0, 2, 2)]) (code := ek5) (ps := []) (fuel := 700) emp5.1.2.2.2.2.2.1 ec5 (cCal_nil) (by decide +kernel)
/-- Link.clear()V -/
def enc50 : cCn := ((0, 1, ([], [], [(0, 2, 2, false, (0, []))], []), [(1, 0, (0, []))]), (0, 1, ([], [], [], []), []), [(2, 2, 3)])
theorem ewc50 : cwCn enc50 = true := by decide +kernel
theorem eoc50 : cOk cT0 ey6 1 1 0 0 enc50 := c_ok (d := 0) (Γ := eg6) (Ga := []) (cr := []) (code := ek6) (ps := []) (fuel := 700) emp6.1.2.2.2.2.2.1 ec6 (cCal_nil) (by decide +kernel)
/-- Link.goesOut(I)Z -/
def enc51 : cCn := ((1, 0, ([], [], [], []), [(0, 0, (0, [(0, 1)]))]), (2, 0, ([(1, 0, 1)], [], [], []), [(0, 0, (0, [(1, 1)]))]), [])
theorem ewc51 : cwCn enc51 = true := by decide +kernel
theorem eoc51 : cOk cT0 ey8 1 1 0 0 enc51 := c_ok (d := 0) (Γ := eg8) (Ga := []) (cr := []) (code := ek8) (ps := []) (fuel := 700) emp8.1.2.2.2.2.2.1 ec8 (cCal_nil) (by decide +kernel)
/-- Link.spanFrom(I)I -/
def enc52 : cCn := ((1, 0, ([], [], [], []), [(0, 0, (0, [(0, 1)]))]), (2, 0, ([], [], [], []), [(0, 0, (0, [(1, 1)]))]), [])
theorem ewc52 : cwCn enc52 = true := by decide +kernel
theorem eoc52 : cOk cT0 ey9 1 1 0 0 enc52 := c_ok (d := 0) (Γ := eg9) (Ga := []) (cr := []) (code := ek9) (ps := []) (fuel := 700) emp9.1.2.2.2.2.2.1 ec9 (cCal_nil) (by decide +kernel)
/-- Link.spanTo(I)I -/
def enc53 : cCn := ((1, 0, ([], [], [], []), [(0, 0, (0, [(0, 1)]))]), (2, 0, ([], [], [], []), [(0, 0, (0, [(1, 1)]))]), [])
theorem ewc53 : cwCn enc53 = true := by decide +kernel
theorem eoc53 : cOk cT0 ey10 1 1 0 0 enc53 := c_ok (d := 0) (Γ := eg10) (Ga := []) (cr := []) (code := ek10) (ps := []) (fuel := 700) emp10.1.2.2.2.2.2.1 ec10 (cCal_nil) (by decide +kernel)
/-- Link.has(I)Z -/
def enc54 : cCn := ((1, 1, ([], [], [(0, 2, 2, false, (0, []))], []), [(1, 0, (0, [])), (0, 0, (0, [(0, 1)]))]), (3, 1, ([(1, 0, 1), (2, 0, 40)], [(2147483648, [(0, 1), (1, -2147483648)]), (2147483647, [(0, -1), (1, -2147483648), (2, 1)])], [], [(0, 2, (0, 0, (0, [(2, 1)])))]), [(0, 0, (0, [(1, 1)]))]), [])
theorem ewc54 : cwCn enc54 = true := by decide +kernel
theorem eoc54 : cOk cT0 ey11 2 1 0 0 enc54 := c_ok (d := 0) (Γ := eg11) (Ga := []) (cr := []) (code := ek11) (ps := []) (fuel := 700) emp11.1.2.2.2.2.2.1 ec11 (cCal_nil) (by decide +kernel)
/-- Link.copyFrom(LSpanCopier.Link;)V -/
def enc55 : cCn := ((0, 2, ([], [], [(0, 2, 2, false, (0, [])), (1, 2, 2, false, (0, []))], []), [(1, 0, (0, [])), (1, 1, (0, []))]), (0, 2, ([], [], [], []), []), [(2, 2, 3), (21, 0, 520)])
theorem ewc55 : cwCn enc55 = true := by decide +kernel
theorem eoc55 : cOk cT0 ey7 2 1 0 0 enc55 := c_ok (d := 0) (Γ := eg7) (Ga := []) (cr := []) (code := ek7) (ps := []) (fuel := 700) emp7.1.2.2.2.2.2.1 ec7 (cCal_nil) (by decide +kernel)
/-- Link.get(II)I -/
def enc56 : cCn := ((2, 1, ([], [], [(0, 2, 2, false, (0, []))], []), [(1, 0, (0, [])), (0, 0, (0, [(0, 1)])), (0, 0, (0, [(1, 1)]))]), (3, 1, ([], [], [], []), [(0, 0, (0, [(2, 1)]))]), [])
theorem ewc56 : cwCn enc56 = true := by decide +kernel
theorem eoc56 : cOk cT0 ey12 3 2 0 0 enc56 := c_ok (d := 1) (Γ := eg12) (Ga := [[(0, 0, enc54)]]) (cr := []) (code := ek12) (ps := []) (fuel := 700) emp12.1.2.2.2.2.2.1 ec12 (cCal_cons (cAl_cons (eoc54.mono (by decide)) ewc54 (cAl_nil)) (cCal_nil)) (by decide +kernel)
/-- Link.send(III)V -/
def enc57 : cCn := ((3, 1, ([], [], [(0, 2, 2, false, (0, []))], []), [(1, 0, (0, [])), (0, 0, (0, [(0, 1)])), (0, 0, (0, [(1, 1)])), (0, 0, (0, [(2, 1)]))]), (3, 1, ([], [], [], []), []), [(2, 2, 3), (21, 0, 511)])
theorem ewc57 : cwCn enc57 = true := by decide +kernel
theorem eoc57 : cOk cT0 ey13 5 1 0 0 enc57 := c_ok (d := 0) (Γ := eg13) (Ga := []) (cr := []) (code := ek13) (ps := []) (fuel := 700) emp13.1.2.2.2.2.2.1 ec13 (cCal_nil) (by decide +kernel)
/-- Link.sendNak(LSpanCopier.Places;II)V -/
def enc58 : cCn := ((2, 2, ([], [], [(0, 2, 2, false, (0, [])), (1, 4, 4, false, (0, []))], []), [(1, 0, (0, [])), (1, 1, (0, [])), (0, 0, (0, [(0, 1)])), (0, 0, (0, [(1, 1)]))]), (2, 2, ([], [], [], []), []), [(2, 2, 3), (21, 0, 519)])
theorem ewc58 : cwCn enc58 = true := by decide +kernel
theorem eoc58 : cOk cT0 ey14 7 2 0 0 enc58 := c_ok (d := 1) (Γ := eg14) (Ga := [[(0, 0, enc44)], [(0, 0, enc45)], [(0, 0, enc0), (0, 0, enc1)], [(0, 0, enc57)]]) (cr := []) (code := ek14) (ps := [(10, (4, 2, ([(2, 0, 8)], [], [(0, 2, 2, false, (0, [])), (1, 4, 4, false, (0, []))], []), 0, 0), [(1, 0, (0, [])), (1, 1, (0, [])), (0, 0, (0, [(0, 1)])), (0, 0, (0, [(1, 1)])), (0, 0, (0, [(2, 1)])), (0, 0, (0, [(3, 1)])), (4, 0, (0, []))], [], [(8, [(2, -1)]), (0, [(0, 1)]), (0, [(1, 1)])], [(1, 0, (0, [])), (1, 1, (0, []))])]) (fuel := 700) emp14.1.2.2.2.2.2.1 ec14 (cCal_cons (cAl_cons (eoc44.mono (by decide)) ewc44 (cAl_nil)) (cCal_cons (cAl_cons (eoc45.mono (by decide)) ewc45 (cAl_nil)) (cCal_cons (cAl_cons (eoc0.mono (by decide)) ewc0 (cAl_cons (eoc1.mono (by decide)) ewc1 (cAl_nil))) (cCal_cons (cAl_cons (eoc57.mono (by decide)) ewc57 (cAl_nil)) (cCal_nil))))) (by decide +kernel)
/-- Link.remove(I)I -/
def enc59 : cCn := ((1, 1, ([], [], [(0, 2, 2, false, (0, []))], []), [(1, 0, (0, [])), (0, 0, (0, [(0, 1)]))]), (2, 1, ([(1, -1, 2)], [], [], []), [(0, 0, (0, [(1, 1)]))]), [(2, 2, 2), (21, 0, 507)])
theorem ewc59 : cwCn enc59 = true := by decide +kernel
theorem eoc59 : cOk cT0 ey16 3 2 0 0 enc59 := c_ok (d := 1) (Γ := eg16) (Ga := [[(0, 0, enc54)]]) (cr := []) (code := ek16) (ps := []) (fuel := 700) emp16.1.2.2.2.2.2.1 ec16 (cCal_cons (cAl_cons (eoc54.mono (by decide)) ewc54 (cAl_nil)) (cCal_nil)) (by decide +kernel)
/-- Link.take(I)V -/
def enc60 : cCn := ((1, 1, ([], [], [(0, 2, 2, false, (0, []))], []), [(1, 0, (0, [])), (0, 0, (0, [(0, 1)]))]), (1, 1, ([], [], [], []), []), [(2, 2, 2), (21, 0, 507)])
theorem ewc60 : cwCn enc60 = true := by decide +kernel
theorem eoc60 : cOk cT0 ey15 2 3 0 0 enc60 := c_ok (d := 2) (Γ := eg15) (Ga := [[(0, 0, enc54)], [(0, 0, enc59)]]) (cr := []) (code := ek15) (ps := []) (fuel := 700) emp15.1.2.2.2.2.2.1 ec15 (cCal_cons (cAl_cons (eoc54.mono (by decide)) ewc54 (cAl_nil)) (cCal_cons (cAl_cons (eoc59.mono (by decide)) ewc59 (cAl_nil)) (cCal_nil))) (by decide +kernel)
/-- Link.repeat(I)I -/
def enc61 : cCn := ((1, 1, ([], [], [(0, 2, 2, false, (0, []))], []), [(1, 0, (0, [])), (0, 0, (0, [(0, 1)]))]), (2, 1, ([(1, -1, 2)], [], [], []), [(0, 0, (0, [(1, 1)]))]), [(2, 2, 2), (21, 0, 520)])
theorem ewc61 : cwCn enc61 = true := by decide +kernel
theorem eoc61 : cOk cT0 ey17 2 2 0 0 enc61 := c_ok (d := 1) (Γ := eg17) (Ga := [[(0, 0, enc54)]]) (cr := []) (code := ek17) (ps := []) (fuel := 700) emp17.1.2.2.2.2.2.1 ec17 (cCal_cons (cAl_cons (eoc54.mono (by decide)) ewc54 (cAl_nil)) (cCal_nil)) (by decide +kernel)
/-- Link.delay(II)I -/
def enc62 : cCn := ((2, 1, ([], [], [(0, 2, 2, false, (0, []))], []), [(1, 0, (0, [])), (0, 0, (0, [(0, 1)])), (0, 0, (0, [(1, 1)]))]), (3, 1, ([(2, -1, 2)], [], [], []), [(0, 0, (0, [(2, 1)]))]), [(21, 0, 27917287412)])
theorem ewc62 : cwCn enc62 = true := by decide +kernel
theorem eoc62 : cOk cT0 ey18 3 2 0 0 enc62 := c_ok (d := 1) (Γ := eg18) (Ga := [[(0, 0, enc54)]]) (cr := []) (code := ek18) (ps := []) (fuel := 700) emp18.1.2.2.2.2.2.1 ec18 (cCal_cons (cAl_cons (eoc54.mono (by decide)) ewc54 (cAl_nil)) (cCal_nil)) (by decide +kernel)
/-- Link.flip(I)I -/
def enc63 : cCn := ((1, 1, ([], [], [(0, 2, 2, false, (0, []))], []), [(1, 0, (0, [])), (0, 0, (0, [(0, 1)]))]), (2, 1, ([(1, -1, 2)], [], [], []), [(0, 0, (0, [(1, 1)]))]), [(21, 0, 27917287415)])
theorem ewc63 : cwCn enc63 = true := by decide +kernel
theorem eoc63 : cOk cT0 ey19 2 3 0 0 enc63 := c_ok (d := 2) (Γ := eg19) (Ga := [[(0, 0, enc54)], [(0, 0, enc56)]]) (cr := []) (code := ek19) (ps := []) (fuel := 700) emp19.1.2.2.2.2.2.1 ec19 (cCal_cons (cAl_cons (eoc54.mono (by decide)) ewc54 (cAl_nil)) (cCal_cons (cAl_cons (eoc56.mono (by decide)) ewc56 (cAl_nil)) (cCal_nil))) (by decide +kernel)
/-- Shelf.<init>()V -/
def enc64 : cCn := ((0, 1, ([], [], [(0, 7, 0, false, (0, []))], [(0, 0, (2, 0, (0, []))), (0, 1, (0, 0, (0, []))), (0, 2, (0, 0, (0, []))), (0, 3, (0, 0, (0, []))), (0, 4, (0, 0, (0, [])))]), [(1, 0, (0, []))]), (0, 1, ([], [], [(0, 7, 7, false, (0, []))], []), []), [(7, 0, 0), (1007, 0, 0)])
theorem ewc64 : cwCn enc64 = true := by decide +kernel
theorem eoc64 : cOk cT0 ey67 1 1 1 6 enc64 := c_ok (d := 0) (Γ := eg67) (Ga := []) (cr := [(0, 7, 7)]) (code := ek67) (ps := []) (fuel := 700) emp67.1.2.2.2.2.2.1 ec67 (cCal_nil) (by decide +kernel)
/-- Shelf.clear(I)V -/
def enc65 : cCn := ((1, 1, ([], [], [(0, 7, 7, false, (0, []))], []), [(1, 0, (0, [])), (0, 0, (0, [(0, 1)]))]), (1, 1, ([], [], [], []), []), [(7, 1, 4)])
theorem ewc65 : cwCn enc65 = true := by decide +kernel
theorem eoc65 : cOk cT0 ey68 2 1 0 0 enc65 := c_ok (d := 0) (Γ := eg68) (Ga := []) (cr := []) (code := ek68) (ps := []) (fuel := 700) emp68.1.2.2.2.2.2.1 ec68 (cCal_nil) (by decide +kernel)
/-- Shelf.copyFrom(LSpanCopier.Shelf;)V -/
def enc66 : cCn := ((0, 2, ([], [], [(0, 7, 7, false, (0, [])), (1, 7, 7, false, (0, []))], []), [(1, 0, (0, [])), (1, 1, (0, []))]), (0, 2, ([], [], [], []), []), [(7, 1, 4), (21, 0, 6)])
theorem ewc66 : cwCn enc66 = true := by decide +kernel
theorem eoc66 : cOk cT0 ey69 2 1 0 0 enc66 := c_ok (d := 0) (Γ := eg69) (Ga := []) (cr := []) (code := ek69) (ps := []) (fuel := 700) emp69.1.2.2.2.2.2.1 ec69 (cCal_nil) (by decide +kernel)
/-- Shelf.entry(I)I -/
def enc67 : cCn := ((1, 1, ([], [], [(0, 7, 7, false, (0, []))], []), [(1, 0, (0, [])), (0, 0, (0, [(0, 1)]))]), (2, 1, ([], [], [], []), [(0, 0, (0, [(1, 1)]))]), [])
theorem ewc67 : cwCn enc67 = true := by decide +kernel
theorem eoc67 : cOk cT0 ey70 2 1 0 0 enc67 := c_ok (d := 0) (Γ := eg70) (Ga := []) (cr := []) (code := ek70) (ps := []) (fuel := 700) emp70.1.2.2.2.2.2.1 ec70 (cCal_nil) (by decide +kernel)
/-- Shelf.tryAct(LSpanCopier.Order;I)Z -/
def enc68 : cCn := ((1, 2, ([], [], [(0, 7, 7, false, (0, [])), (1, 3, 3, false, (0, []))], []), [(1, 0, (0, [])), (1, 1, (0, [])), (0, 0, (0, [(0, 1)]))]), (2, 2, ([(1, 0, 1)], [], [], []), [(0, 0, (0, [(1, 1)]))]), [(7, 2, 2)])
theorem ewc68 : cwCn enc68 = true := by decide +kernel
theorem eoc68 : cOk cT0 ey72 7 1 0 0 enc68 := c_ok (d := 0) (Γ := eg72) (Ga := []) (cr := []) (code := ek72) (ps := []) (fuel := 700) emp72.1.2.2.2.2.2.1 ec72 (cCal_nil) (by decide +kernel)
/-- Shelf.goOn(LSpanCopier.Order;)Z -/
def enc69 : cCn := ((0, 2, ([], [], [(0, 7, 7, false, (0, [])), (1, 3, 3, false, (0, []))], []), [(1, 0, (0, [])), (1, 1, (0, []))]), (1, 2, ([(0, 0, 1)], [], [], []), [(0, 0, (0, [(0, 1)]))]), [(7, 1, 4), (21, 0, 5)])
theorem ewc69 : cwCn enc69 = true := by decide +kernel
theorem eoc69 : cOk cT0 ey71 3 2 0 0 enc69 := c_ok (d := 1) (Γ := eg71) (Ga := [[(0, 0, enc68)]]) (cr := []) (code := ek71) (ps := []) (fuel := 700) emp71.1.2.2.2.2.2.1 ec71 (cCal_cons (cAl_cons (eoc68.mono (by decide)) ewc68 (cAl_nil)) (cCal_nil)) (by decide +kernel)
/-- Sender.<init>()V -/
def enc70 : cCn := ((0, 1, ([], [], [(0, 5, 0, false, (0, []))], [(0, 0, (2, 0, (0, []))), (0, 1, (0, 0, (0, []))), (0, 2, (0, 0, (0, []))), (0, 3, (0, 0, (0, []))), (0, 4, (0, 0, (0, []))), (0, 5, (0, 0, (0, [])))]), [(1, 0, (0, []))]), (0, 1, ([], [], [(0, 5, 5, false, (0, []))], []), []), [(4, 0, 0), (5, 0, 0), (1004, 0, 0), (1005, 0, 0)])
theorem ewc70 : cwCn enc70 = true := by decide +kernel
theorem eoc70 : cOk cT0 ey42 1 2 2 242 enc70 := c_ok (d := 1) (Γ := eg42) (Ga := [[(1, 240, enc38)]]) (cr := [(0, 5, 5)]) (code := ek42) (ps := []) (fuel := 700) emp42.1.2.2.2.2.2.1 ec42 (cCal_cons (cAl_cons (eoc38.mono (by decide)) ewc38 (cAl_nil)) (cCal_nil)) (by decide +kernel)
/-- Sender.clear()V -/
def enc71 : cCn := ((0, 1, ([], [], [(0, 5, 5, false, (0, []))], []), [(1, 0, (0, []))]), (0, 1, ([], [], [], []), []), [(4, 1, 1), (5, 1, 5), (22, 0, 239)])
theorem ewc71 : cwCn enc71 = true := by decide +kernel
theorem eoc71 : cOk cT0 ey43 1 3 0 0 enc71 := c_ok (d := 2) (Γ := eg43) (Ga := [[(0, 0, enc40)]]) (cr := []) (code := ek43) (ps := []) (fuel := 700) emp43.1.2.2.2.2.2.1 ec43 (cCal_cons (cAl_cons (eoc40.mono (by decide)) ewc40 (cAl_nil)) (cCal_nil)) (by decide +kernel)
/-- Sender.copyFrom(LSpanCopier.Sender;)V -/
def enc72 : cCn := ((0, 2, ([], [], [(0, 5, 5, false, (0, [])), (1, 5, 5, false, (0, []))], []), [(1, 0, (0, [])), (1, 1, (0, []))]), (0, 2, ([], [], [], []), []), [(4, 1, 1), (5, 1, 5), (22, 0, 240)])
theorem ewc72 : cwCn enc72 = true := by decide +kernel
theorem eoc72 : cOk cT0 ey44 2 2 0 0 enc72 := c_ok (d := 1) (Γ := eg44) (Ga := [[(0, 0, enc39)]]) (cr := []) (code := ek44) (ps := []) (fuel := 700) emp44.1.2.2.2.2.2.1 ec44 (cCal_cons (cAl_cons (eoc39.mono (by decide)) ewc39 (cAl_nil)) (cCal_nil)) (by decide +kernel)
/-- Sender.isActive()Z -/
def enc73 : cCn := ((0, 1, ([], [], [(0, 5, 5, false, (0, []))], []), [(1, 0, (0, []))]), (1, 1, ([(0, 0, 1)], [], [], []), [(0, 0, (0, [(0, 1)]))]), [])
theorem ewc73 : cwCn enc73 = true := by decide +kernel
theorem eoc73 : cOk cT0 ey45 1 1 0 0 enc73 := c_ok (d := 0) (Γ := eg45) (Ga := []) (cr := []) (code := ek45) (ps := []) (fuel := 700) emp45.1.2.2.2.2.2.1 ec45 (cCal_nil) (by decide +kernel)
/-- Sender.isOver()Z -/
def enc74 : cCn := ((0, 1, ([], [], [(0, 5, 5, false, (0, []))], []), [(1, 0, (0, []))]), (1, 1, ([(0, 0, 1)], [], [], []), [(0, 0, (0, [(0, 1)]))]), [])
theorem ewc74 : cwCn enc74 = true := by decide +kernel
theorem eoc74 : cOk cT0 ey46 1 1 0 0 enc74 := c_ok (d := 0) (Γ := eg46) (Ga := []) (cr := []) (code := ek46) (ps := []) (fuel := 700) emp46.1.2.2.2.2.2.1 ec46 (cCal_nil) (by decide +kernel)
/-- Sender.meetNak(LSpanCopier.Link;)V -/
def enc75 : cCn := ((0, 2, ([], [], [(0, 5, 5, false, (0, [])), (1, 2, 2, false, (0, []))], []), [(1, 0, (0, [])), (1, 1, (0, []))]), (0, 2, ([], [], [], []), []), [(4, 1, 1), (22, 0, 239)])
theorem ewc75 : cwCn enc75 = true := by decide +kernel
theorem eoc75 : cOk cT0 ey48 5 3 0 0 enc75 := c_ok (d := 2) (Γ := eg48) (Ga := [[(0, 0, enc73)], [(0, 0, enc0), (0, 0, enc1)], [(0, 0, enc52)], [(0, 0, enc53)], [(0, 0, enc42)]]) (cr := []) (code := ek48) (ps := [(22, (2, 2, ([(0, -2147483648, 8), (1, 0, 8)], [], [(0, 5, 5, false, (0, [])), (1, 2, 2, false, (0, []))], []), 0, 0), [(1, 0, (0, [])), (1, 1, (0, [])), (0, 0, (0, [(0, 1)])), (0, 0, (0, [(1, 1)])), (4, 0, (0, []))], [], [(8, [(1, -1)])], [(1, 0, (0, [])), (1, 1, (0, []))])]) (fuel := 700) emp48.1.2.2.2.2.2.1 ec48 (cCal_cons (cAl_cons (eoc73.mono (by decide)) ewc73 (cAl_nil)) (cCal_cons (cAl_cons (eoc0.mono (by decide)) ewc0 (cAl_cons (eoc1.mono (by decide)) ewc1 (cAl_nil))) (cCal_cons (cAl_cons (eoc52.mono (by decide)) ewc52 (cAl_nil)) (cCal_cons (cAl_cons (eoc53.mono (by decide)) ewc53 (cAl_nil)) (cCal_cons (cAl_cons (eoc42.mono (by decide)) ewc42 (cAl_nil)) (cCal_nil)))))) (by decide +kernel)
/-- Sender.meetFin(LSpanCopier.Link;)V -/
def enc76 : cCn := ((0, 2, ([], [], [(0, 5, 5, false, (0, [])), (1, 2, 2, false, (0, []))], []), [(1, 0, (0, [])), (1, 1, (0, []))]), (0, 2, ([], [], [], []), []), [(2, 2, 3), (5, 1, 1), (21, 0, 511)])
theorem ewc76 : cwCn enc76 = true := by decide +kernel
theorem eoc76 : cOk cT0 ey49 2 2 0 0 enc76 := c_ok (d := 1) (Γ := eg49) (Ga := [[(0, 0, enc73)], [(0, 0, enc57)]]) (cr := []) (code := ek49) (ps := []) (fuel := 700) emp49.1.2.2.2.2.2.1 ec49 (cCal_cons (cAl_cons (eoc73.mono (by decide)) ewc73 (cAl_nil)) (cCal_cons (cAl_cons (eoc57.mono (by decide)) ewc57 (cAl_nil)) (cCal_nil))) (by decide +kernel)
/-- Sender.sendEof(LSpanCopier.World;)V -/
def enc77 : cCn := ((0, 2, ([], [], [(0, 5, 5, false, (0, [])), (1, 10, 10, false, (0, []))], []), [(1, 0, (0, [])), (1, 1, (0, []))]), (0, 2, ([], [], [], []), []), [(2, 2, 3), (5, 3, 4), (21, 0, 511)])
theorem ewc77 : cwCn enc77 = true := by decide +kernel
theorem eoc77 : cOk cT0 ey53 2 2 0 0 enc77 := c_ok (d := 1) (Γ := eg53) (Ga := [[(0, 0, enc57)]]) (cr := []) (code := ek53) (ps := []) (fuel := 700) emp53.1.2.2.2.2.2.1 ec53 (cCal_cons (cAl_cons (eoc57.mono (by decide)) ewc57 (cAl_nil)) (cCal_nil)) (by decide +kernel)
/-- Sender.waitForAck(LSpanCopier.World;)V -/
def enc78 : cCn := ((0, 2, ([], [], [(0, 5, 5, false, (0, [])), (1, 10, 10, false, (0, []))], []), [(1, 0, (0, [])), (1, 1, (0, []))]), (0, 2, ([], [], [], []), []), [(2, 2, 3), (5, 1, 1), (5, 3, 4), (21, 0, 511)])
theorem ewc78 : cwCn enc78 = true := by decide +kernel
theorem eoc78 : cOk cT0 ey54 2 3 0 0 enc78 := c_ok (d := 2) (Γ := eg54) (Ga := [[(0, 0, enc77)]]) (cr := []) (code := ek54) (ps := []) (fuel := 700) emp54.1.2.2.2.2.2.1 ec54 (cCal_cons (cAl_cons (eoc77.mono (by decide)) ewc77 (cAl_nil)) (cCal_nil)) (by decide +kernel)
/-- Sender.sendNext(LSpanCopier.World;)V -/
def enc79 : cCn := ((0, 2, ([], [], [(0, 5, 5, false, (0, [])), (1, 10, 10, false, (0, []))], []), [(1, 0, (0, [])), (1, 1, (0, []))]), (0, 2, ([], [], [], []), []), [(2, 2, 3), (5, 1, 4), (21, 0, 511)])
theorem ewc79 : cwCn enc79 = true := by decide +kernel
theorem eoc79 : cOk cT0 ey52 4 3 0 0 enc79 := c_ok (d := 2) (Γ := eg52) (Ga := [[(0, 0, enc0), (0, 0, enc1)], [(0, 0, enc57)], [(0, 0, enc77)]]) (cr := []) (code := ek52) (ps := []) (fuel := 700) emp52.1.2.2.2.2.2.1 ec52 (cCal_cons (cAl_cons (eoc0.mono (by decide)) ewc0 (cAl_cons (eoc1.mono (by decide)) ewc1 (cAl_nil))) (cCal_cons (cAl_cons (eoc57.mono (by decide)) ewc57 (cAl_nil)) (cCal_cons (cAl_cons (eoc77.mono (by decide)) ewc77 (cAl_nil)) (cCal_nil)))) (by decide +kernel)
/-- Sender.sendAgain(LSpanCopier.World;)V -/
def enc80 : cCn := ((0, 2, ([], [], [(0, 5, 5, false, (0, [])), (1, 10, 10, false, (0, []))], []), [(1, 0, (0, [])), (1, 1, (0, []))]), (0, 2, ([], [], [], []), []), [(2, 2, 3), (4, 1, 1), (21, 0, 511), (22, 0, 239)])
theorem ewc80 : cwCn enc80 = true := by decide +kernel
theorem eoc80 : cOk cT0 ey51 4 3 0 0 enc80 := c_ok (d := 2) (Γ := eg51) (Ga := [[(0, 0, enc44)], [(0, 0, enc45)], [(0, 0, enc0), (0, 0, enc1)], [(0, 0, enc57)], [(0, 0, enc43)]]) (cr := []) (code := ek51) (ps := []) (fuel := 700) emp51.1.2.2.2.2.2.1 ec51 (cCal_cons (cAl_cons (eoc44.mono (by decide)) ewc44 (cAl_nil)) (cCal_cons (cAl_cons (eoc45.mono (by decide)) ewc45 (cAl_nil)) (cCal_cons (cAl_cons (eoc0.mono (by decide)) ewc0 (cAl_cons (eoc1.mono (by decide)) ewc1 (cAl_nil))) (cCal_cons (cAl_cons (eoc57.mono (by decide)) ewc57 (cAl_nil)) (cCal_cons (cAl_cons (eoc43.mono (by decide)) ewc43 (cAl_nil)) (cCal_nil)))))) (by decide +kernel)
/-- Sender.act(LSpanCopier.World;)V -/
def enc81 : cCn := ((0, 2, ([], [], [(0, 5, 5, false, (0, [])), (1, 10, 10, false, (0, []))], []), [(1, 0, (0, [])), (1, 1, (0, []))]), (0, 2, ([], [], [], []), []), [(2, 2, 3), (4, 1, 1), (5, 1, 5), (21, 0, 511), (22, 0, 239)])
theorem ewc81 : cwCn enc81 = true := by decide +kernel
theorem eoc81 : cOk cT0 ey50 3 4 0 0 enc81 := c_ok (d := 3) (Γ := eg50) (Ga := [[(0, 0, enc73)], [(0, 0, enc80)], [(0, 0, enc79)], [(0, 0, enc78)]]) (cr := []) (code := ek50) (ps := []) (fuel := 700) emp50.1.2.2.2.2.2.1 ec50 (cCal_cons (cAl_cons (eoc73.mono (by decide)) ewc73 (cAl_nil)) (cCal_cons (cAl_cons (eoc80.mono (by decide)) ewc80 (cAl_nil)) (cCal_cons (cAl_cons (eoc79.mono (by decide)) ewc79 (cAl_nil)) (cCal_cons (cAl_cons (eoc78.mono (by decide)) ewc78 (cAl_nil)) (cCal_nil))))) (by decide +kernel)
/-- Sender.meet(LSpanCopier.World;)V -/
def enc82 : cCn := ((0, 2, ([], [], [(0, 5, 5, false, (0, [])), (1, 10, 10, false, (0, []))], []), [(1, 0, (0, [])), (1, 1, (0, []))]), (0, 2, ([], [], [], []), []), [(2, 2, 3), (4, 1, 1), (5, 1, 1), (5, 5, 5), (21, 0, 511), (22, 0, 239)])
theorem ewc82 : cwCn enc82 = true := by decide +kernel
theorem eoc82 : cOk cT0 ey47 2 4 0 0 enc82 := c_ok (d := 3) (Γ := eg47) (Ga := [[(0, 0, enc75)], [(0, 0, enc76)]]) (cr := []) (code := ek47) (ps := []) (fuel := 700) emp47.1.2.2.2.2.2.1 ec47 (cCal_cons (cAl_cons (eoc75.mono (by decide)) ewc75 (cAl_nil)) (cCal_cons (cAl_cons (eoc76.mono (by decide)) ewc76 (cAl_nil)) (cCal_nil))) (by decide +kernel)
/-- Taker.<init>()V -/
def enc83 : cCn := ((0, 1, ([], [], [(0, 8, 0, false, (0, []))], [(0, 0, (2, 0, (0, []))), (0, 1, (2, 0, (0, []))), (0, 2, (0, 0, (0, []))), (0, 3, (0, 0, (0, []))), (0, 4, (0, 0, (0, []))), (0, 5, (0, 0, (0, []))), (0, 6, (0, 0, (0, []))), (0, 7, (0, 0, (0, []))), (0, 8, (0, 0, (0, [])))]), [(1, 0, (0, []))]), (0, 1, ([], [], [(0, 8, 8, false, (0, []))], []), []), [(4, 0, 0), (8, 0, 1), (8, 8, 8), (1004, 0, 0), (1008, 0, 0)])
theorem ewc83 : cwCn enc83 = true := by decide +kernel
theorem eoc83 : cOk cT0 ey73 1 2 3 482 enc83 := c_ok (d := 1) (Γ := eg73) (Ga := [[(1, 240, enc38)]]) (cr := [(0, 8, 8)]) (code := ek73) (ps := []) (fuel := 700) emp73.1.2.2.2.2.2.1 ec73 (cCal_cons (cAl_cons (eoc38.mono (by decide)) ewc38 (cAl_nil)) (cCal_nil)) (by decide +kernel)
/-- Taker.clear()V -/
def enc84 : cCn := ((0, 1, ([], [], [(0, 8, 8, false, (0, []))], []), [(1, 0, (0, []))]), (0, 1, ([], [], [], []), []), [(4, 1, 1), (8, 2, 8), (22, 0, 239)])
theorem ewc84 : cwCn enc84 = true := by decide +kernel
theorem eoc84 : cOk cT0 ey74 1 3 0 0 enc84 := c_ok (d := 2) (Γ := eg74) (Ga := [[(0, 0, enc40)]]) (cr := []) (code := ek74) (ps := []) (fuel := 700) emp74.1.2.2.2.2.2.1 ec74 (cCal_cons (cAl_cons (eoc40.mono (by decide)) ewc40 (cAl_nil)) (cCal_nil)) (by decide +kernel)
/-- Taker.copyFrom(LSpanCopier.Taker;)V -/
def enc85 : cCn := ((0, 2, ([], [], [(0, 8, 8, false, (0, [])), (1, 8, 8, false, (0, []))], []), [(1, 0, (0, [])), (1, 1, (0, []))]), (0, 2, ([], [], [], []), []), [(4, 1, 1), (8, 2, 8), (22, 0, 240)])
theorem ewc85 : cwCn enc85 = true := by decide +kernel
theorem eoc85 : cOk cT0 ey75 2 2 0 0 enc85 := c_ok (d := 1) (Γ := eg75) (Ga := [[(0, 0, enc39)]]) (cr := []) (code := ek75) (ps := []) (fuel := 700) emp75.1.2.2.2.2.2.1 ec75 (cCal_cons (cAl_cons (eoc39.mono (by decide)) ewc39 (cAl_nil)) (cCal_nil)) (by decide +kernel)
/-- Taker.isOver()Z -/
def enc86 : cCn := ((0, 1, ([], [], [(0, 8, 8, false, (0, []))], []), [(1, 0, (0, []))]), (1, 1, ([(0, 0, 1)], [], [], []), [(0, 0, (0, [(0, 1)]))]), [])
theorem ewc86 : cwCn enc86 = true := by decide +kernel
theorem eoc86 : cOk cT0 ey76 1 1 0 0 enc86 := c_ok (d := 0) (Γ := eg76) (Ga := []) (cr := []) (code := ek76) (ps := []) (fuel := 700) emp76.1.2.2.2.2.2.1 ec76 (cCal_nil) (by decide +kernel)
/-- Taker.hasByte(I)Z -/
def enc87 : cCn := ((1, 1, ([], [], [(0, 8, 8, false, (0, []))], []), [(1, 0, (0, [])), (0, 0, (0, [(0, 1)]))]), (2, 1, ([(1, 0, 1)], [(2147483648, [(0, 1), (1, -2147483648)]), (2147483647, [(0, -1), (1, -2147483408)])], [], []), [(0, 0, (0, [(1, 1)]))]), [])
theorem ewc87 : cwCn enc87 = true := by decide +kernel
theorem eoc87 : cOk cT0 ey77 2 2 0 0 enc87 := c_ok (d := 1) (Γ := eg77) (Ga := [[(0, 0, enc41)]]) (cr := []) (code := ek77) (ps := []) (fuel := 700) emp77.1.2.2.2.2.2.1 ec77 (cCal_cons (cAl_cons (eoc41.mono (by decide)) ewc41 (cAl_nil)) (cCal_nil)) (by decide +kernel)
/-- Taker.byteAt(I)I -/
def enc88 : cCn := ((1, 1, ([], [], [(0, 8, 8, false, (0, []))], []), [(1, 0, (0, [])), (0, 0, (0, [(0, 1)]))]), (2, 1, ([], [], [], []), [(0, 0, (0, [(1, 1)]))]), [])
theorem ewc88 : cwCn enc88 = true := by decide +kernel
theorem eoc88 : cOk cT0 ey78 2 3 0 0 enc88 := c_ok (d := 2) (Γ := eg78) (Ga := [[(0, 0, enc87)]]) (cr := []) (code := ek78) (ps := []) (fuel := 700) emp78.1.2.2.2.2.2.1 ec78 (cCal_cons (cAl_cons (eoc87.mono (by decide)) ewc87 (cAl_nil)) (cCal_nil)) (by decide +kernel)
/-- Taker.weigh(II)I -/
def enc89 : cCn := ((2, 0, ([], [], [], []), [(0, 0, (0, [(0, 1)])), (0, 0, (0, [(1, 1)]))]), (3, 0, ([], [], [], []), [(0, 0, (0, [(2, 1)]))]), [])
theorem ewc89 : cwCn enc89 = true := by decide +kernel
theorem eoc89 : cOk cT0 ey80 2 1 0 0 enc89 := c_ok (d := 0) (Γ := eg80) (Ga := []) (cr := []) (code := ek80) (ps := []) (fuel := 700) emp80.1.2.2.2.2.2.1 ec80 (cCal_nil) (by decide +kernel)
