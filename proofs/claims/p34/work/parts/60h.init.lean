/-! ===== p34: a new object of the class: images holds nothing ===== -/
def cT1 : cTb := [(1, (1, 0, 0, [(1, (1, 0, 0, 46, false)), (2, (1, 0, 0, 47, false)), (3, (1, 0, 0, 47, false)), (4, (0, 0, 40, 0, false))])),
  (2, (2, 0, 0, [(1, (1, 0, 0, 40, false)), (2, (1, 0, 0, 41, false)), (3, (0, 0, 40, 0, false)), (4, (2, 0, 0, 0, false)), (5, (2, 0, 0, 0, false))])),
  (3, (3, 0, 0, [(1, (1, 0, 0, 42, false)), (2, (1, 0, 0, 43, false)), (3, (1, 0, 0, 44, false)), (4, (1, 0, 0, 44, false)), (5, (1, 0, 0, 45, false)), (6, (2, 0, 0, 0, false)), (7, (2, 0, 0, 0, false)), (8, (0, 0, 6, 0, false)), (9, (2, 0, 0, 0, false)), (10, (2, 0, 0, 0, false)), (11, (0, 0, 10, 0, false))])),
  (4, (4, 0, 0, [(1, (1, 0, 0, 48, false)), (2, (2, 0, 0, 0, false))])),
  (5, (5, 0, 0, [(1, (1, 0, 0, 4, false)), (2, (2, 0, 0, 0, false)), (3, (2, 0, 0, 0, false)), (4, (2, 0, 0, 0, false)), (5, (2, 0, 0, 0, false)), (6, (2, 0, 0, 0, false))])),
  (6, (6, 0, 0, [(1, (1, 0, 0, 46, false)), (2, (1, 0, 0, 47, false)), (3, (1, 0, 0, 47, false)), (4, (0, 0, 40, 0, false)), (5, (2, 0, 0, 0, false))])),
  (7, (7, 0, 0, [(1, (1, 0, 0, 44, false)), (2, (0, 0, 6, 0, false)), (3, (2, 0, 0, 0, false)), (4, (0, 0, 1, 0, false)), (5, (0, 0, 1, 0, false))])),
  (8, (8, 0, 0, [(1, (1, 0, 0, 4, false)), (2, (1, 0, 0, 48, false)), (3, (2, 0, 0, 0, false)), (4, (2, 0, 0, 0, false)), (5, (0, 0, 1, 0, false)), (6, (2, 0, 0, 0, false)), (7, (2, 0, 0, 0, false)), (8, (2, 0, 0, 0, false)), (9, (2, 0, 0, 0, false))])),
  (9, (9, 0, 0, [(1, (1, 0, 0, 51, false)), (2, (0, 0, 940, 0, false)), (3, (0, 0, 940, 0, false)), (4, (0, 0, 940, 0, false)), (5, (2, 0, 0, 0, false)), (6, (2, 0, 0, 0, false)), (7, (2, 0, 0, 0, false)), (8, (2, 0, 0, 0, false)), (9, (1, 0, 0, 30, false)), (10, (2, 0, 0, 0, false)), (11, (2, 0, 0, 0, false))])),
  (10, (10, 0, 0, [(1, (1, 0, 0, 2, false)), (2, (1, 0, 0, 5, false)), (3, (1, 0, 0, 8, false)), (4, (1, 0, 0, 8, false)), (5, (1, 0, 0, 7, false)), (6, (1, 0, 0, 3, false)), (7, (1, 0, 0, 6, true)), (8, (1, 0, 0, 34, false)), (9, (2, 0, 0, 0, false)), (10, (2, 0, 0, 0, false)), (11, (2, 0, 0, 0, false))])),
  (11, (11, 0, 0, [(1, (1, 0, 0, 9, false)), (2, (1, 0, 0, 1, false)), (3, (1, 0, 0, 10, false)), (4, (1, 0, 0, 52, false)), (5, (1, 0, 0, 53, false)), (6, (1, 0, 0, 54, false)), (7, (1, 0, 0, 55, false)), (8, (1, 0, 0, 10, false)), (9, (1, 0, 0, 10, true)), (10, (2, 0, 0, 0, false)), (11, (2, 0, 0, 0, false)), (12, (2, 0, 0, 0, false))])),
  (12, (12, 0, 0, [(1, (2, 0, 0, 0, false)), (2, (1, 0, 0, 60, false)), (3, (0, 0, 940, 0, false)), (4, (0, 0, 940, 0, false)), (5, (2, 0, 0, 0, false)), (6, (0, 0, 940, 0, false)), (7, (2, 0, 0, 0, false)), (8, (0, 0, 4, 0, false)), (9, (2, 0, 0, 0, false)), (10, (2, 0, 0, 0, false)), (11, (2, 0, 0, 0, false)), (12, (2, 0, 0, 0, false)), (13, (2, 0, 0, 0, false)), (14, (0, -2147483648, 2147483647, 0, false)), (15, (1, 0, 0, 61, false)), (16, (1, 0, 0, 62, false)), (17, (1, 0, 0, 63, false)), (18, (1, 0, 0, 64, false)), (19, (1, 0, 0, 65, false)), (20, (1, 0, 0, 65, false)), (21, (1, 0, 0, 66, false)), (22, (1, 0, 0, 66, false)), (23, (1, 0, 0, 67, false)), (24, (1, 0, 0, 68, false)), (25, (1, 0, 0, 69, false)), (26, (0, 0, 8, 0, false)), (27, (1, 0, 0, 70, false)), (28, (1, 0, 0, 71, false)), (29, (0, 0, 1, 0, false)), (30, (2, 0, 0, 0, false)), (31, (1, 0, 0, 72, false)), (32, (1, 0, 0, 73, false)), (33, (0, 0, 40, 0, false)), (34, (0, 0, 1, 0, false)), (35, (1, 0, 0, 74, false)), (36, (0, 0, 60, 0, false)), (37, (0, 0, 20, 0, false)), (38, (0, 0, 8, 0, false)), (39, (0, 0, 59, 0, false))])),
  (30, (30, 0, 0, [])),
  (31, (31, 6, 6, [])),
  (32, (31, 6, 6, [])),
  (33, (31, 38, 38, [])),
  (34, (22, 0, 240, [])),
  (40, (21, 520, 520, [])),
  (41, (21, 13, 13, [])),
  (42, (21, 6, 6, [])),
  (43, (25, 6, 6, [(6, (1, 0, 0, 30, false))])),
  (44, (21, 6, 6, [])),
  (45, (24, 10, 10, [])),
  (46, (25, 40, 40, [(40, (1, 0, 0, 30, false))])),
  (47, (21, 40, 40, [])),
  (48, (22, 240, 240, [])),
  (51, (22, 940, 940, [])),
  (52, (26, 2, 2, [(2, (1, 0, 0, 99, true))])),
  (53, (26, 8, 8, [(8, (1, 0, 0, 10, true))])),
  (54, (21, 3, 3, [])),
  (55, (21, 4, 4, [])),
  (60, (41, 940, 940, [])),
  (61, (41, 3266, 3266, [(1, (0, 1, 32, 0, false)), (2, (2, 0, 0, 0, false)), (3, (0, 1, 9, 0, false)), (5, (2, 0, 0, 0, false)), (6, (0, 1, 60, 0, false)), (7, (2, 0, 0, 0, false)), (8, (0, 0, 10, 0, false)), (9, (0, 0, 6, 0, false)), (30, (2, 0, 0, 0, false)), (32, (0, 0, 240, 0, false)), (43, (2, 0, 0, 0, false)), (44, (0, 0, 6, 0, false)), (45, (2, 0, 0, 0, false)), (46, (0, 0, 40, 0, false)), (47, (2, 0, 0, 0, false)), (48, (0, 0, 240, 0, false)), (53, (2, 0, 0, 0, false)), (54, (0, -1, 2, 0, false)), (536, (2, 0, 0, 0, false)), (537, (0, 0, 240, 0, false)), (542, (2, 0, 0, 0, false)), (543, (0, -1, 2, 0, false)), (1504, (2, 0, 0, 0, false)), (3024, (3, 5, 1504, 0, false)), (3025, (2, 0, 0, 0, false)), (3026, (0, 0, 59, 0, false)), (3266, (3, 2, 3026, 0, false))])),
  (62, (41, 28, 28, [(1, (0, 1, 32, 0, false)), (2, (2, 0, 0, 0, false)), (3, (0, 1, 9, 0, false)), (5, (2, 0, 0, 0, false)), (6, (0, 1, 60, 0, false)), (7, (2, 0, 0, 0, false)), (8, (0, 0, 10, 0, false)), (9, (0, 0, 6, 0, false))])),
  (63, (41, 6532, 6532, [(1, (0, 0, 32, 0, false)), (2, (2, 0, 0, 0, false)), (3, (0, 0, 9, 0, false)), (5, (2, 0, 0, 0, false)), (6, (0, 0, 60, 0, false)), (7, (2, 0, 0, 0, false)), (8, (0, 0, 10, 0, false)), (9, (0, 0, 6, 0, false)), (30, (2, 0, 0, 0, false)), (32, (0, 0, 240, 0, false)), (43, (2, 0, 0, 0, false)), (44, (0, 0, 6, 0, false)), (45, (2, 0, 0, 0, false)), (46, (0, 0, 40, 0, false)), (47, (2, 0, 0, 0, false)), (48, (0, 0, 240, 0, false)), (53, (2, 0, 0, 0, false)), (54, (0, -1, 2, 0, false)), (536, (2, 0, 0, 0, false)), (537, (0, 0, 240, 0, false)), (542, (2, 0, 0, 0, false)), (543, (0, -1, 2, 0, false)), (1504, (2, 0, 0, 0, false)), (3024, (3, 1, 1504, 0, false)), (3025, (2, 0, 0, 0, false)), (3026, (0, 0, 59, 0, false)), (3266, (3, 2, 3026, 0, false)), (3267, (0, 0, 32, 0, false)), (3268, (2, 0, 0, 0, false)), (3269, (0, 0, 9, 0, false)), (3271, (2, 0, 0, 0, false)), (3272, (0, 0, 60, 0, false)), (3273, (2, 0, 0, 0, false)), (3274, (0, 0, 10, 0, false)), (3275, (0, 0, 6, 0, false)), (3296, (2, 0, 0, 0, false)), (3298, (0, 0, 240, 0, false)), (3309, (2, 0, 0, 0, false)), (3310, (0, 0, 6, 0, false)), (3311, (2, 0, 0, 0, false)), (3312, (0, 0, 40, 0, false)), (3313, (2, 0, 0, 0, false)), (3314, (0, 0, 240, 0, false)), (3319, (2, 0, 0, 0, false)), (3320, (0, -1, 2, 0, false)), (3802, (2, 0, 0, 0, false)), (3803, (0, 0, 240, 0, false)), (3808, (2, 0, 0, 0, false)), (3809, (0, -1, 2, 0, false)), (4770, (2, 0, 0, 0, false)), (6290, (3, 1, 4770, 0, false)), (6291, (2, 0, 0, 0, false)), (6292, (0, 0, 59, 0, false)), (6532, (3, 2, 6292, 0, false))])),
  (64, (41, 23968, 23968, [(2, (2, 0, 0, 0, false)), (4, (0, 0, 240, 0, false)), (15, (2, 0, 0, 0, false)), (16, (0, 0, 6, 0, false)), (17, (2, 0, 0, 0, false)), (18, (0, 0, 40, 0, false)), (19, (2, 0, 0, 0, false)), (20, (0, 0, 240, 0, false)), (25, (2, 0, 0, 0, false)), (26, (0, -1, 2, 0, false)), (508, (2, 0, 0, 0, false)), (509, (0, 0, 240, 0, false)), (514, (2, 0, 0, 0, false)), (515, (0, -1, 2, 0, false)), (1476, (2, 0, 0, 0, false)), (2996, (3, 1, 1476, 0, false)), (2998, (2, 0, 0, 0, false)), (3000, (0, 0, 240, 0, false)), (3011, (2, 0, 0, 0, false)), (3012, (0, 0, 6, 0, false)), (3013, (2, 0, 0, 0, false)), (3014, (0, 0, 40, 0, false)), (3015, (2, 0, 0, 0, false)), (3016, (0, 0, 240, 0, false)), (3021, (2, 0, 0, 0, false)), (3022, (0, -1, 2, 0, false)), (3504, (2, 0, 0, 0, false)), (3505, (0, 0, 240, 0, false)), (3510, (2, 0, 0, 0, false)), (3511, (0, -1, 2, 0, false)), (4472, (2, 0, 0, 0, false)), (5992, (3, 1, 4472, 0, false)), (5994, (2, 0, 0, 0, false)), (5996, (0, 0, 240, 0, false)), (6007, (2, 0, 0, 0, false)), (6008, (0, 0, 6, 0, false)), (6009, (2, 0, 0, 0, false)), (6010, (0, 0, 40, 0, false)), (6011, (2, 0, 0, 0, false)), (6012, (0, 0, 240, 0, false)), (6017, (2, 0, 0, 0, false)), (6018, (0, -1, 2, 0, false)), (6500, (2, 0, 0, 0, false)), (6501, (0, 0, 240, 0, false)), (6506, (2, 0, 0, 0, false)), (6507, (0, -1, 2, 0, false)), (7468, (2, 0, 0, 0, false)), (8988, (3, 1, 7468, 0, false)), (8990, (2, 0, 0, 0, false)), (8992, (0, 0, 240, 0, false)), (9003, (2, 0, 0, 0, false)), (9004, (0, 0, 6, 0, false)), (9005, (2, 0, 0, 0, false)), (9006, (0, 0, 40, 0, false)), (9007, (2, 0, 0, 0, false)), (9008, (0, 0, 240, 0, false)), (9013, (2, 0, 0, 0, false)), (9014, (0, -1, 2, 0, false)), (9496, (2, 0, 0, 0, false)), (9497, (0, 0, 240, 0, false)), (9502, (2, 0, 0, 0, false)), (9503, (0, -1, 2, 0, false)), (10464, (2, 0, 0, 0, false)), (11984, (3, 1, 10464, 0, false)), (11986, (2, 0, 0, 0, false)), (11988, (0, 0, 240, 0, false)), (11999, (2, 0, 0, 0, false)), (12000, (0, 0, 6, 0, false)), (12001, (2, 0, 0, 0, false)), (12002, (0, 0, 40, 0, false)), (12003, (2, 0, 0, 0, false)), (12004, (0, 0, 240, 0, false)), (12009, (2, 0, 0, 0, false)), (12010, (0, -1, 2, 0, false)), (12492, (2, 0, 0, 0, false)), (12493, (0, 0, 240, 0, false)), (12498, (2, 0, 0, 0, false)), (12499, (0, -1, 2, 0, false)), (13460, (2, 0, 0, 0, false)), (14980, (3, 1, 13460, 0, false)), (14982, (2, 0, 0, 0, false)), (14984, (0, 0, 240, 0, false)), (14995, (2, 0, 0, 0, false)), (14996, (0, 0, 6, 0, false)), (14997, (2, 0, 0, 0, false)), (14998, (0, 0, 40, 0, false)), (14999, (2, 0, 0, 0, false)), (15000, (0, 0, 240, 0, false)), (15005, (2, 0, 0, 0, false)), (15006, (0, -1, 2, 0, false)), (15488, (2, 0, 0, 0, false)), (15489, (0, 0, 240, 0, false)), (15494, (2, 0, 0, 0, false)), (15495, (0, -1, 2, 0, false)), (16456, (2, 0, 0, 0, false)), (17976, (3, 1, 16456, 0, false)), (17978, (2, 0, 0, 0, false)), (17980, (0, 0, 240, 0, false)), (17991, (2, 0, 0, 0, false)), (17992, (0, 0, 6, 0, false)), (17993, (2, 0, 0, 0, false)), (17994, (0, 0, 40, 0, false)), (17995, (2, 0, 0, 0, false)), (17996, (0, 0, 240, 0, false)), (18001, (2, 0, 0, 0, false)), (18002, (0, -1, 2, 0, false)), (18484, (2, 0, 0, 0, false)), (18485, (0, 0, 240, 0, false)), (18490, (2, 0, 0, 0, false)), (18491, (0, -1, 2, 0, false)), (19452, (2, 0, 0, 0, false)), (20972, (3, 1, 19452, 0, false)), (20974, (2, 0, 0, 0, false)), (20976, (0, 0, 240, 0, false)), (20987, (2, 0, 0, 0, false)), (20988, (0, 0, 6, 0, false)), (20989, (2, 0, 0, 0, false)), (20990, (0, 0, 40, 0, false)), (20991, (2, 0, 0, 0, false)), (20992, (0, 0, 240, 0, false)), (20997, (2, 0, 0, 0, false)), (20998, (0, -1, 2, 0, false)), (21480, (2, 0, 0, 0, false)), (21481, (0, 0, 240, 0, false)), (21486, (2, 0, 0, 0, false)), (21487, (0, -1, 2, 0, false)), (22448, (2, 0, 0, 0, false)), (23968, (3, 1, 22448, 0, false))])),
  (65, (41, 2996, 2996, [(2, (2, 0, 0, 0, false)), (4, (0, 0, 240, 0, false)), (15, (2, 0, 0, 0, false)), (16, (0, 0, 6, 0, false)), (17, (2, 0, 0, 0, false)), (18, (0, 0, 40, 0, false)), (19, (2, 0, 0, 0, false)), (20, (0, 0, 240, 0, false)), (25, (2, 0, 0, 0, false)), (26, (0, -1, 2, 0, false)), (508, (2, 0, 0, 0, false)), (509, (0, 0, 240, 0, false)), (514, (2, 0, 0, 0, false)), (515, (0, -1, 2, 0, false)), (1476, (2, 0, 0, 0, false)), (2996, (3, 1, 1476, 0, false))])),
  (66, (44, 10, 10, [])),
  (67, (44, 20, 20, [])),
  (68, (43, 2, 2, [(2, (0, 0, 1, 0, false))])),
  (69, (43, 7, 7, [(7, (0, 0, 1, 0, false))])),
  (70, (41, 38, 38, [(38, (3, 3, 0, 0, false))])),
  (71, (41, 3, 3, [])),
  (72, (41, 120, 120, [])),
  (73, (41, 4, 4, [])),
  (74, (41, 240, 240, [(240, (3, 2, 0, 0, false))])),
  (75, (44, 1, 1, []))]
theorem etc21 : cOk cT1 ey91 1 1 1 940 enc21 := c_ok (d := 0) (Γ := eg91) (Ga := []) (cr := [(0, 9, 9)]) (code := ek91) (ps := []) (fuel := 700) emp91.1.2.2.2.2.2.1 ec91 (cCal_nil) (by decide +kernel)
theorem etc33 : cOk cT1 ey0 2 1 3 120 enc33 := c_ok (d := 0) (Γ := eg0) (Ga := []) (cr := [(1, 25, 46), (0, 1, 1)]) (code := ek0) (ps := []) (fuel := 700) emp0.1.2.2.2.2.2.1 ec0 (cCal_nil) (by decide +kernel)
theorem etc49 : cOk cT1 ey5 1 1 2 533 enc49 := c_ok (d := 0) (Γ := eg5) (Ga := []) (cr := [(0, 2, 2)]) (code := ek5) (ps := []) (fuel := 700) emp5.1.2.2.2.2.2.1 ec5 (cCal_nil) (by decide +kernel)
theorem etc38 : cOk cT1 ey31 1 1 1 240 enc38 := c_ok (d := 0) (Γ := eg31) (Ga := []) (cr := [(0, 4, 4)]) (code := ek31) (ps := []) (fuel := 700) emp31.1.2.2.2.2.2.1 ec31 (cCal_nil) (by decide +kernel)
theorem etc70 : cOk cT1 ey42 1 2 2 242 enc70 := c_ok (d := 1) (Γ := eg42) (Ga := [[(1, 240, enc38)]]) (cr := [(0, 5, 5)]) (code := ek42) (ps := []) (fuel := 700) emp42.1.2.2.2.2.2.1 ec42 (cCal_cons (cAl_cons (etc38.mono (by decide)) ewc38 (cAl_nil)) (cCal_nil)) (by decide +kernel)
theorem etc83 : cOk cT1 ey73 1 2 3 482 enc83 := c_ok (d := 1) (Γ := eg73) (Ga := [[(1, 240, enc38)]]) (cr := [(0, 8, 8)]) (code := ek73) (ps := []) (fuel := 700) emp73.1.2.2.2.2.2.1 ec73 (cCal_cons (cAl_cons (etc38.mono (by decide)) ewc38 (cAl_nil)) (cCal_nil)) (by decide +kernel)
theorem etc64 : cOk cT1 ey67 1 1 1 6 enc64 := c_ok (d := 0) (Γ := eg67) (Ga := []) (cr := [(0, 7, 7)]) (code := ek67) (ps := []) (fuel := 700) emp67.1.2.2.2.2.2.1 ec67 (cCal_nil) (by decide +kernel)
theorem etc22 : cOk cT1 ey20 2 1 5 34 enc22 := c_ok (d := 0) (Γ := eg20) (Ga := []) (cr := [(3, 25, 43), (0, 3, 3)]) (code := ek20) (ps := []) (fuel := 700) emp20.1.2.2.2.2.2.1 ec20 (cCal_nil) (by decide +kernel)
theorem etc137 : cOk cT1 ey107 1 3 22 1824 enc137 := c_ok (d := 2) (Γ := eg107) (Ga := [[(2, 533, enc49)], [(2, 242, enc70)], [(3, 482, enc83)], [(1, 6, enc64)], [(5, 34, enc22)]]) (cr := [(0, 10, 10)]) (code := ek107) (ps := []) (fuel := 700) emp107.1.2.2.2.2.2.1 ec107 (cCal_cons (cAl_cons (etc49.mono (by decide)) ewc49 (cAl_nil)) (cCal_cons (cAl_cons (etc70.mono (by decide)) ewc70 (cAl_nil)) (cCal_cons (cAl_cons (etc83.mono (by decide)) ewc83 (cAl_nil)) (cCal_cons (cAl_cons (etc64.mono (by decide)) ewc64 (cAl_nil)) (cCal_cons (cAl_cons (etc22.mono (by decide)) ewc22 (cAl_nil)) (cCal_nil)))))) (by decide +kernel)
theorem etc3 : cOk cT1 ey302 4 1 0 0 enc3 := c_ok (d := 0) (Γ := eg302) (Ga := []) (cr := []) (code := ek302) (ps := [(5, (2, 1, ([(1, 0, 30000)], [(3, [(1, -1)])], [(0, 21, 54, false, (3, []))], []), 0, 0), [(1, 0, (0, [])), (0, 0, (0, [(0, 1)])), (0, 0, (0, [(1, 1)])), (0, 0, (3, []))], [], [(30000, [(1, -1)]), (0, [(0, 1)])], [(1, 0, (0, []))])]) (fuel := 700) emp302.1.2.2.2.2.2.1 ec302 (cCal_nil) (by decide +kernel)
theorem etc4 : cOk cT1 ey302 4 1 0 0 enc4 := c_ok (d := 0) (Γ := eg302) (Ga := []) (cr := []) (code := ek302) (ps := [(5, (2, 1, ([(1, 0, 30000)], [(4, [(1, -1)])], [(0, 21, 55, false, (4, []))], []), 0, 0), [(1, 0, (0, [])), (0, 0, (0, [(0, 1)])), (0, 0, (0, [(1, 1)])), (0, 0, (4, []))], [], [(30000, [(1, -1)]), (0, [(0, 1)])], [(1, 0, (0, []))])]) (fuel := 700) emp302.1.2.2.2.2.2.1 ec302 (cCal_nil) (by decide +kernel)
theorem etc156 : cOk cT1 ey126 1 4 56 4762 enc156 := c_ok (d := 3) (Γ := eg126) (Ga := [[(1, 940, enc21)], [(3, 120, enc33)], [(22, 1824, enc137)], [(0, 0, enc3), (0, 0, enc4)]]) (cr := [(0, 11, 11)]) (code := ek126) (ps := []) (fuel := 700) emp126.1.2.2.2.2.2.1 ec126 (cCal_cons (cAl_cons (etc21.mono (by decide)) ewc21 (cAl_nil)) (cCal_cons (cAl_cons (etc33.mono (by decide)) ewc33 (cAl_nil)) (cCal_cons (cAl_cons (etc137.mono (by decide)) ewc137 (cAl_nil)) (cCal_cons (cAl_cons (etc3.mono (by decide)) ewc3 (cAl_cons (etc4.mono (by decide)) ewc4 (cAl_nil))) (cCal_nil))))) (by decide +kernel)
theorem t1_step {T : cTb} {r k : Nat} {R : cR} : cfR ((k, R) :: T) r = cond (Nat.beq k r) (some R) (cfR T r) := rfl
theorem t1_52 : cfR cT1 52 = some (26, 2, 2, [(2, (1, 0, 0, 99, true))]) ∧ cfR cT0 52 = some (26, 2, 2, [(2, (1, 0, 0, 10, true))]) ∧ cfR cT1 99 = none := ⟨by rfl, by rfl, by rfl⟩
/-- the two tables, but for one row -/
theorem t1_tab : ∃ A B, cT0 = A ++ (52, (26, 2, 2, [(2, (1, 0, 0, 10, true))])) :: B ∧ cT1 = A ++ (52, (26, 2, 2, [(2, (1, 0, 0, 99, true))])) :: B := ⟨cT0.take 27, cT0.drop 28, by rfl, by rfl⟩
theorem t1_app {A B : cTb} {r : Nat} {R R' : cR} (h : r ≠ 52) : cfR (A ++ (52, R) :: B) r = cfR (A ++ (52, R') :: B) r := by
  induction A with
  | nil =>
    show cond (Nat.beq 52 r) (some R) (cfR B r) = cond (Nat.beq 52 r) (some R') (cfR B r)
    cases e : Nat.beq 52 r with
    | true => exact absurd (Nat.eq_of_beq_eq_true e).symm h
    | false => rfl
  | cons p A ih =>
    show cond (Nat.beq p.1 r) (some p.2) (cfR (A ++ (52, R) :: B) r) = cond (Nat.beq p.1 r) (some p.2) (cfR (A ++ (52, R') :: B) r)
    rw [ih]
theorem t1_eq {r : Nat} (h : r ≠ 52) : cfR cT1 r = cfR cT0 r := by
  obtain ⟨A, B, e0, e1⟩ := t1_tab
  rw [e0, e1]
  exact t1_app h
theorem t1_null {g : Nat → Nat} {τ : bt} {h : bh} (hw : cWT cT1 g τ h) {I k : Nat} (gI : g I = 52) (hk : k < 2) : h.2 I k = none := by
  obtain ⟨R, r1, -, -, -, r5, -⟩ := hw I (by rw [gI]; decide)
  rw [gI, t1_52.1] at r1
  cases r1
  have r5 := (r5 k).2
  have ek : k = 0 ∨ k = 1 := by omega
  have e : cseg ((26, 2, 2, [(2, (1, 0, 0, 99, true))]) : cR).2.2.2 k = (1, 0, 0, 99, true) := by rcases ek with rfl | rfl <;> rfl
  rw [e] at r5
  rcases r5 rfl with ⟨-, z⟩ | ⟨b, -, b2, b3⟩
  · exact z
  · obtain ⟨R, q1, -⟩ := hw b b3
    rw [show g b = 99 from b2, t1_52.2.2] at q1
    cases q1
theorem t1_wt {g : Nat → Nat} {τ : bt} {h : bh} (hw : cWT cT1 g τ h) : cWT cT0 g τ h := by
  intro a ha
  obtain ⟨R, r1, r2, r3, r4, r5, r6, r7, r8⟩ := hw a ha
  by_cases e : g a = 52
  · have nul := fun k hk => t1_null hw (I := a) (k := k) e hk
    rw [e, t1_52.1] at r1
    cases r1
    refine ⟨(26, 2, 2, [(2, (1, 0, 0, 10, true))]), by rw [e]; exact t1_52.2.1, r2, r3, r4, fun i => ⟨fun z => ?_, fun z => ?_⟩, fun k41 => absurd (show 41 ≤ 26 from k41) (by decide), r7, fun e12 => absurd (e.symm.trans e12) (by decide)⟩
    · by_cases c : i < 2
      · have ek : i = 0 ∨ i = 1 := by omega
        rcases ek with rfl | rfl <;> exact absurd (show (1 : Nat) = 0 from z) (by decide)
      · have e9 : cseg ((26, 2, 2, [(2, (1, 0, 0, 10, true))]) : cR).2.2.2 i = (2, 0, 0, 0, false) := cseg_far (u := 2) (by omega) _ (fun q hq => by obtain rfl := List.mem_singleton.mp hq; exact Nat.le_refl _)
        rw [e9] at z
        cases z
    · by_cases c : i < 2
      · have ek : i = 0 ∨ i = 1 := by omega
        have e9 : cseg ((26, 2, 2, [(2, (1, 0, 0, 10, true))]) : cR).2.2.2 i = (1, 0, 0, 10, true) := by rcases ek with rfl | rfl <;> rfl
        rw [e9]
        exact Or.inl ⟨rfl, nul i c⟩
      · have e9 : cseg ((26, 2, 2, [(2, (1, 0, 0, 10, true))]) : cR).2.2.2 i = (2, 0, 0, 0, false) := cseg_far (u := 2) (by omega) _ (fun q hq => by obtain rfl := List.mem_singleton.mp hq; exact Nat.le_refl _)
        rw [e9] at z
        cases z
  · rw [t1_eq e] at r1
    exact ⟨R, r1, r2, r3, r4, r5, r6, r7, r8⟩

