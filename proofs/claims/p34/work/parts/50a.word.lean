/-- Word.of(J)LSpanCopier.Word; -/
def enw0 : cCn := ((0, 0, ([], [], [], []), [(3, 0, (0, []))]), (0, 1, ([], [], [(0, 30, 30, false, (0, []))], []), [(1, 0, (0, []))]), [])
theorem eww0 : cwCn enw0 = true := by decide +kernel
