/-! ===== the law, row by row ===== -/
def eyL : bY := (⟨"SpanCopierLaw", "law", "([I)Z"⟩, code, ret)
def ekLP : List cN := [(0, .new 8, 3, 10, 12, 0, 1023, 0),
  (3, .dup, 1, 0, 0, 0, 0, 0),
  (4, .invokespecial 19, 3, 0, 1, 2, 1025, 10),
  (7, .astore_n 1, 1, 0, 0, 0, 0, 0),
  (8, .new 20, 3, 11, 39, 0, 6059, 0),
  (11, .dup, 1, 0, 0, 0, 0, 0),
  (12, .invokespecial 22, 3, 1, 1, 2, 6060, 11),
  (15, .astore_n 2, 1, 0, 0, 0, 0, 0),
  (16, .iconst 1, 1, 0, 0, 0, 0, 0),
  (17, .newarray .long, 2, 44, 0, 0, 0, 0),
  (19, .astore_n 3, 1, 0, 0, 0, 0, 0),
  (20, .iconst 0, 1, 0, 0, 0, 0, 0),
  (21, .istore 4, 2, 0, 0, 0, 0, 0)]
def egLP : List (bY × Nat) := [(ey126, 1), (ey190, 2)]
theorem eGLP : dk_G egLP [1, 1] := dk_G_cons emp126 (dk_G_cons emp190 (dk_G_nil))
theorem ecLP : ∀ e ∈ ekLP, dk_ok eyL egLP e := fun e he => dk_ck_ok eGLP ((by decide +kernel : ∀ e ∈ ekLP, dk_ck eyL egLP [1, 1] e = true) e he)
def ekLH : List cN := [(23, .iload 4, 2, 0, 0, 0, 0, 0),
  (25, .aload_n 0, 1, 0, 0, 0, 0, 0),
  (26, .arraylength, 1, 0, 0, 0, 0, 0),
  (27, .bipush 6, 2, 0, 0, 0, 0, 0),
  (29, .isub, 1, 0, 0, 0, 0, 0),
  (30, .if_icmp .gt 1048, 3, 0, 0, 0, 0, 0),
  (33, .aload_n 0, 1, 0, 0, 0, 0, 0),
  (34, .iload 4, 2, 0, 0, 0, 0, 0),
  (36, .iaload, 1, 0, 0, 0, 0, 0),
  (37, .bipush 63, 2, 0, 0, 0, 0, 0),
  (39, .iand, 1, 0, 0, 0, 0, 0),
  (40, .tableswitch 1032 0 33 #[152, 225, 250, 263, 276, 289, 314, 339, 364, 401, 426, 439, 452, 465, 490, 530, 579, 616, 653, 678, 706, 719, 744, 757, 770, 795, 832, 869, 894, 919, 932, 957, 982, 1007], 152, 0, 0, 0, 0, 0)]
def egLH : List (bY × Nat) := []
theorem eGLH : dk_G egLH [] := dk_G_nil
theorem ecLH : ∀ e ∈ ekLH, dk_ok eyL egLH e := fun e he => dk_ck_ok eGLH ((by decide +kernel : ∀ e ∈ ekLH, dk_ck eyL egLH [] e = true) e he)
def ekL0 : List cN := [(192, .aload_n 1, 1, 0, 0, 0, 0, 0),
  (193, .aload_n 0, 1, 0, 0, 0, 0, 0),
  (194, .iload 4, 2, 0, 0, 0, 0, 0),
  (196, .iconst 1, 1, 0, 0, 0, 0, 0),
  (197, .iadd, 1, 0, 0, 0, 0, 0),
  (198, .iaload, 1, 0, 0, 0, 0, 0),
  (199, .aload_n 0, 1, 0, 0, 0, 0, 0),
  (200, .iload 4, 2, 0, 0, 0, 0, 0),
  (202, .iconst 2, 1, 0, 0, 0, 0, 0),
  (203, .iadd, 1, 0, 0, 0, 0, 0),
  (204, .iaload, 1, 0, 0, 0, 0, 0),
  (205, .aload_n 0, 1, 0, 0, 0, 0, 0),
  (206, .iload 4, 2, 0, 0, 0, 0, 0),
  (208, .iconst 3, 1, 0, 0, 0, 0, 0),
  (209, .iadd, 1, 0, 0, 0, 0, 0),
  (210, .iaload, 1, 0, 0, 0, 0, 0),
  (211, .aload_n 0, 1, 0, 0, 0, 0, 0),
  (212, .iload 4, 2, 0, 0, 0, 0, 0),
  (214, .iconst 4, 1, 0, 0, 0, 0, 0),
  (215, .iadd, 1, 0, 0, 0, 0, 0),
  (216, .iaload, 1, 0, 0, 0, 0, 0),
  (217, .aload_n 0, 1, 0, 0, 0, 0, 0),
  (218, .iload 4, 2, 0, 0, 0, 0, 0),
  (220, .iconst 5, 1, 0, 0, 0, 0, 0),
  (221, .iadd, 1, 0, 0, 0, 0, 0),
  (222, .iaload, 1, 0, 0, 0, 0, 0),
  (223, .invokevirtual 23, 3, 0, 6, 0, 2177, 10),
  (226, .pop, 1, 0, 0, 0, 0, 0),
  (227, .aload_n 2, 1, 0, 0, 0, 0, 0),
  (228, .aload_n 0, 1, 0, 0, 0, 0, 0),
  (229, .iload 4, 2, 0, 0, 0, 0, 0),
  (231, .iconst 1, 1, 0, 0, 0, 0, 0),
  (232, .iadd, 1, 0, 0, 0, 0, 0),
  (233, .iaload, 1, 0, 0, 0, 0, 0),
  (234, .aload_n 0, 1, 0, 0, 0, 0, 0),
  (235, .iload 4, 2, 0, 0, 0, 0, 0),
  (237, .iconst 2, 1, 0, 0, 0, 0, 0),
  (238, .iadd, 1, 0, 0, 0, 0, 0),
  (239, .iaload, 1, 0, 0, 0, 0, 0),
  (240, .aload_n 0, 1, 0, 0, 0, 0, 0),
  (241, .iload 4, 2, 0, 0, 0, 0, 0),
  (243, .iconst 3, 1, 0, 0, 0, 0, 0),
  (244, .iadd, 1, 0, 0, 0, 0, 0),
  (245, .iaload, 1, 0, 0, 0, 0, 0),
  (246, .aload_n 0, 1, 0, 0, 0, 0, 0),
  (247, .iload 4, 2, 0, 0, 0, 0, 0),
  (249, .iconst 4, 1, 0, 0, 0, 0, 0),
  (250, .iadd, 1, 0, 0, 0, 0, 0),
  (251, .iaload, 1, 0, 0, 0, 0, 0),
  (252, .aload_n 0, 1, 0, 0, 0, 0, 0),
  (253, .iload 4, 2, 0, 0, 0, 0, 0),
  (255, .iconst 5, 1, 0, 0, 0, 0, 0),
  (256, .iadd, 1, 0, 0, 0, 0, 0),
  (257, .iaload, 1, 0, 0, 0, 0, 0),
  (258, .invokevirtual 27, 3, 1, 6, 0, 6046, 11),
  (261, .pop, 1, 0, 0, 0, 0, 0),
  (262, .goto 810, 3, 0, 0, 0, 0, 0)]
def egL0 : List (bY × Nat) := [(ey127, 6), (ey171, 6)]
theorem eGL0 : dk_G egL0 [0, 0] := dk_G_cons emp127 (dk_G_cons emp171 (dk_G_nil))
theorem ecL0 : ∀ e ∈ ekL0, dk_ok eyL egL0 e := fun e he => dk_ck_ok eGL0 ((by decide +kernel : ∀ e ∈ ekL0, dk_ck eyL egL0 [0, 0] e = true) e he)
def ekL1 : List cN := [(265, .aload_n 1, 1, 0, 0, 0, 0, 0),
  (266, .aload_n 0, 1, 0, 0, 0, 0, 0),
  (267, .iload 4, 2, 0, 0, 0, 0, 0),
  (269, .iconst 1, 1, 0, 0, 0, 0, 0),
  (270, .iadd, 1, 0, 0, 0, 0, 0),
  (271, .iaload, 1, 0, 0, 0, 0, 0),
  (272, .invokevirtual 28, 3, 0, 2, 0, 2185, 10),
  (275, .pop, 1, 0, 0, 0, 0, 0),
  (276, .aload_n 2, 1, 0, 0, 0, 0, 0),
  (277, .aload_n 0, 1, 0, 0, 0, 0, 0),
  (278, .iload 4, 2, 0, 0, 0, 0, 0),
  (280, .iconst 1, 1, 0, 0, 0, 0, 0),
  (281, .iadd, 1, 0, 0, 0, 0, 0),
  (282, .iaload, 1, 0, 0, 0, 0, 0),
  (283, .invokevirtual 32, 3, 1, 2, 0, 6055, 11),
  (286, .pop, 1, 0, 0, 0, 0, 0),
  (287, .goto 785, 3, 0, 0, 0, 0, 0)]
def egL1 : List (bY × Nat) := [(ey128, 2), (ey172, 2)]
theorem eGL1 : dk_G egL1 [0, 0] := dk_G_cons emp128 (dk_G_cons emp172 (dk_G_nil))
theorem ecL1 : ∀ e ∈ ekL1, dk_ok eyL egL1 e := fun e he => dk_ck_ok eGL1 ((by decide +kernel : ∀ e ∈ ekL1, dk_ck eyL egL1 [0, 0] e = true) e he)
def ekL2 : List cN := [(290, .aload_n 1, 1, 0, 0, 0, 0, 0),
  (291, .invokevirtual 33, 3, 0, 1, 0, 2189, 10),
  (294, .pop, 1, 0, 0, 0, 0, 0),
  (295, .aload_n 2, 1, 0, 0, 0, 0, 0),
  (296, .invokevirtual 37, 3, 1, 1, 0, 6195, 11),
  (299, .pop, 1, 0, 0, 0, 0, 0),
  (300, .goto 772, 3, 0, 0, 0, 0, 0)]
def egL2 : List (bY × Nat) := [(ey129, 3), (ey204, 3)]
theorem eGL2 : dk_G egL2 [0, 0] := dk_G_cons emp129 (dk_G_cons emp204 (dk_G_nil))
theorem ecL2 : ∀ e ∈ ekL2, dk_ok eyL egL2 e := fun e he => dk_ck_ok eGL2 ((by decide +kernel : ∀ e ∈ ekL2, dk_ck eyL egL2 [0, 0] e = true) e he)
def ekL3 : List cN := [(303, .aload_n 1, 1, 0, 0, 0, 0, 0),
  (304, .invokevirtual 38, 3, 0, 1, 0, 3105, 10),
  (307, .pop, 1, 0, 0, 0, 0, 0),
  (308, .aload_n 2, 1, 0, 0, 0, 0, 0),
  (309, .invokevirtual 41, 3, 1, 1, 0, 7058, 11),
  (312, .pop, 1, 0, 0, 0, 0, 0),
  (313, .goto 759, 3, 0, 0, 0, 0, 0)]
def egL3 : List (bY × Nat) := [(ey131, 1), (ey205, 1)]
theorem eGL3 : dk_G egL3 [0, 0] := dk_G_cons emp131 (dk_G_cons emp205 (dk_G_nil))
theorem ecL3 : ∀ e ∈ ekL3, dk_ok eyL egL3 e := fun e he => dk_ck_ok eGL3 ((by decide +kernel : ∀ e ∈ ekL3, dk_ck eyL egL3 [0, 0] e = true) e he)
def ekL4 : List cN := [(316, .aload_n 1, 1, 0, 0, 0, 0, 0),
  (317, .invokevirtual 42, 3, 0, 1, 0, 3109, 10),
  (320, .pop, 1, 0, 0, 0, 0, 0),
  (321, .aload_n 2, 1, 0, 0, 0, 0, 0),
  (322, .invokevirtual 45, 3, 1, 1, 0, 7070, 11),
  (325, .pop, 1, 0, 0, 0, 0, 0),
  (326, .goto 746, 3, 0, 0, 0, 0, 0)]
def egL4 : List (bY × Nat) := [(ey132, 2), (ey246, 3)]
theorem eGL4 : dk_G egL4 [0, 0] := dk_G_cons emp132 (dk_G_cons emp246 (dk_G_nil))
theorem ecL4 : ∀ e ∈ ekL4, dk_ok eyL egL4 e := fun e he => dk_ck_ok eGL4 ((by decide +kernel : ∀ e ∈ ekL4, dk_ck eyL egL4 [0, 0] e = true) e he)
def ekL5 : List cN := [(329, .aload_n 1, 1, 0, 0, 0, 0, 0),
  (330, .aload_n 0, 1, 0, 0, 0, 0, 0),
  (331, .iload 4, 2, 0, 0, 0, 0, 0),
  (333, .iconst 1, 1, 0, 0, 0, 0, 0),
  (334, .iadd, 1, 0, 0, 0, 0, 0),
  (335, .iaload, 1, 0, 0, 0, 0, 0),
  (336, .invokevirtual 46, 3, 0, 2, 0, 3166, 10),
  (339, .pop, 1, 0, 0, 0, 0, 0),
  (340, .aload_n 2, 1, 0, 0, 0, 0, 0),
  (341, .aload_n 0, 1, 0, 0, 0, 0, 0),
  (342, .iload 4, 2, 0, 0, 0, 0, 0),
  (344, .iconst 1, 1, 0, 0, 0, 0, 0),
  (345, .iadd, 1, 0, 0, 0, 0, 0),
  (346, .iaload, 1, 0, 0, 0, 0, 0),
  (347, .invokevirtual 49, 3, 1, 2, 0, 7082, 11),
  (350, .pop, 1, 0, 0, 0, 0, 0),
  (351, .goto 721, 3, 0, 0, 0, 0, 0)]
def egL5 : List (bY × Nat) := [(ey135, 2), (ey247, 2)]
theorem eGL5 : dk_G egL5 [0, 0] := dk_G_cons emp135 (dk_G_cons emp247 (dk_G_nil))
theorem ecL5 : ∀ e ∈ ekL5, dk_ok eyL egL5 e := fun e he => dk_ck_ok eGL5 ((by decide +kernel : ∀ e ∈ ekL5, dk_ck eyL egL5 [0, 0] e = true) e he)
def ekL6 : List cN := [(354, .aload_n 1, 1, 0, 0, 0, 0, 0),
  (355, .aload_n 0, 1, 0, 0, 0, 0, 0),
  (356, .iload 4, 2, 0, 0, 0, 0, 0),
  (358, .iconst 1, 1, 0, 0, 0, 0, 0),
  (359, .iadd, 1, 0, 0, 0, 0, 0),
  (360, .iaload, 1, 0, 0, 0, 0, 0),
  (361, .invokevirtual 50, 3, 0, 2, 0, 4103, 10),
  (364, .pop, 1, 0, 0, 0, 0, 0),
  (365, .aload_n 2, 1, 0, 0, 0, 0, 0),
  (366, .aload_n 0, 1, 0, 0, 0, 0, 0),
  (367, .iload 4, 2, 0, 0, 0, 0, 0),
  (369, .iconst 1, 1, 0, 0, 0, 0, 0),
  (370, .iadd, 1, 0, 0, 0, 0, 0),
  (371, .iaload, 1, 0, 0, 0, 0, 0),
  (372, .invokevirtual 53, 3, 1, 2, 0, 7224, 11),
  (375, .pop, 1, 0, 0, 0, 0, 0),
  (376, .goto 696, 3, 0, 0, 0, 0, 0)]
def egL6 : List (bY × Nat) := [(ey137, 2), (ey252, 2)]
theorem eGL6 : dk_G egL6 [0, 0] := dk_G_cons emp137 (dk_G_cons emp252 (dk_G_nil))
theorem ecL6 : ∀ e ∈ ekL6, dk_ok eyL egL6 e := fun e he => dk_ck_ok eGL6 ((by decide +kernel : ∀ e ∈ ekL6, dk_ck eyL egL6 [0, 0] e = true) e he)
def ekL7 : List cN := [(379, .aload_n 1, 1, 0, 0, 0, 0, 0),
  (380, .aload_n 0, 1, 0, 0, 0, 0, 0),
  (381, .iload 4, 2, 0, 0, 0, 0, 0),
  (383, .iconst 1, 1, 0, 0, 0, 0, 0),
  (384, .iadd, 1, 0, 0, 0, 0, 0),
  (385, .iaload, 1, 0, 0, 0, 0, 0),
  (386, .invokevirtual 54, 3, 0, 2, 0, 4112, 10),
  (389, .pop, 1, 0, 0, 0, 0, 0),
  (390, .aload_n 2, 1, 0, 0, 0, 0, 0),
  (391, .aload_n 0, 1, 0, 0, 0, 0, 0),
  (392, .iload 4, 2, 0, 0, 0, 0, 0),
  (394, .iconst 1, 1, 0, 0, 0, 0, 0),
  (395, .iadd, 1, 0, 0, 0, 0, 0),
  (396, .iaload, 1, 0, 0, 0, 0, 0),
  (397, .invokevirtual 57, 3, 1, 2, 0, 8008, 11),
  (400, .pop, 1, 0, 0, 0, 0, 0),
  (401, .goto 671, 3, 0, 0, 0, 0, 0)]
def egL7 : List (bY × Nat) := [(ey139, 2), (ey253, 2)]
theorem eGL7 : dk_G egL7 [0, 0] := dk_G_cons emp139 (dk_G_cons emp253 (dk_G_nil))
theorem ecL7 : ∀ e ∈ ekL7, dk_ok eyL egL7 e := fun e he => dk_ck_ok eGL7 ((by decide +kernel : ∀ e ∈ ekL7, dk_ck eyL egL7 [0, 0] e = true) e he)
def ekL8 : List cN := [(404, .aload_n 1, 1, 0, 0, 0, 0, 0),
  (405, .aload_n 0, 1, 0, 0, 0, 0, 0),
  (406, .iload 4, 2, 0, 0, 0, 0, 0),
  (408, .iconst 1, 1, 0, 0, 0, 0, 0),
  (409, .iadd, 1, 0, 0, 0, 0, 0),
  (410, .iaload, 1, 0, 0, 0, 0, 0),
  (411, .aload_n 0, 1, 0, 0, 0, 0, 0),
  (412, .iload 4, 2, 0, 0, 0, 0, 0),
  (414, .iconst 2, 1, 0, 0, 0, 0, 0),
  (415, .iadd, 1, 0, 0, 0, 0, 0),
  (416, .iaload, 1, 0, 0, 0, 0, 0),
  (417, .invokevirtual 58, 3, 0, 3, 0, 4120, 10),
  (420, .pop, 1, 0, 0, 0, 0, 0),
  (421, .aload_n 2, 1, 0, 0, 0, 0, 0),
  (422, .aload_n 0, 1, 0, 0, 0, 0, 0),
  (423, .iload 4, 2, 0, 0, 0, 0, 0),
  (425, .iconst 1, 1, 0, 0, 0, 0, 0),
  (426, .iadd, 1, 0, 0, 0, 0, 0),
  (427, .iaload, 1, 0, 0, 0, 0, 0),
  (428, .aload_n 0, 1, 0, 0, 0, 0, 0),
  (429, .iload 4, 2, 0, 0, 0, 0, 0),
  (431, .iconst 2, 1, 0, 0, 0, 0, 0),
  (432, .iadd, 1, 0, 0, 0, 0, 0),
  (433, .iaload, 1, 0, 0, 0, 0, 0),
  (434, .invokevirtual 61, 3, 1, 3, 0, 8012, 11),
  (437, .pop, 1, 0, 0, 0, 0, 0),
  (438, .goto 634, 3, 0, 0, 0, 0, 0)]
def egL8 : List (bY × Nat) := [(ey140, 3), (ey254, 3)]
theorem eGL8 : dk_G egL8 [0, 0] := dk_G_cons emp140 (dk_G_cons emp254 (dk_G_nil))
theorem ecL8 : ∀ e ∈ ekL8, dk_ok eyL egL8 e := fun e he => dk_ck_ok eGL8 ((by decide +kernel : ∀ e ∈ ekL8, dk_ck eyL egL8 [0, 0] e = true) e he)
def ekL9 : List cN := [(441, .aload_n 1, 1, 0, 0, 0, 0, 0),
  (442, .aload_n 0, 1, 0, 0, 0, 0, 0),
  (443, .iload 4, 2, 0, 0, 0, 0, 0),
  (445, .iconst 1, 1, 0, 0, 0, 0, 0),
  (446, .iadd, 1, 0, 0, 0, 0, 0),
  (447, .iaload, 1, 0, 0, 0, 0, 0),
  (448, .invokevirtual 62, 3, 0, 2, 0, 4128, 10),
  (451, .pop, 1, 0, 0, 0, 0, 0),
  (452, .aload_n 2, 1, 0, 0, 0, 0, 0),
  (453, .aload_n 0, 1, 0, 0, 0, 0, 0),
  (454, .iload 4, 2, 0, 0, 0, 0, 0),
  (456, .iconst 1, 1, 0, 0, 0, 0, 0),
  (457, .iadd, 1, 0, 0, 0, 0, 0),
  (458, .iaload, 1, 0, 0, 0, 0, 0),
  (459, .invokevirtual 65, 3, 1, 2, 0, 8016, 11),
  (462, .pop, 1, 0, 0, 0, 0, 0),
  (463, .goto 609, 3, 0, 0, 0, 0, 0)]
def egL9 : List (bY × Nat) := [(ey141, 2), (ey255, 2)]
theorem eGL9 : dk_G egL9 [0, 0] := dk_G_cons emp141 (dk_G_cons emp255 (dk_G_nil))
theorem ecL9 : ∀ e ∈ ekL9, dk_ok eyL egL9 e := fun e he => dk_ck_ok eGL9 ((by decide +kernel : ∀ e ∈ ekL9, dk_ck eyL egL9 [0, 0] e = true) e he)
def ekL10 : List cN := [(466, .aload_n 1, 1, 0, 0, 0, 0, 0),
  (467, .invokevirtual 66, 3, 0, 1, 0, 4137, 10),
  (470, .pop, 1, 0, 0, 0, 0, 0),
  (471, .aload_n 2, 1, 0, 0, 0, 0, 0),
  (472, .invokevirtual 69, 3, 1, 1, 0, 8020, 11),
  (475, .pop, 1, 0, 0, 0, 0, 0),
  (476, .goto 596, 3, 0, 0, 0, 0, 0)]
def egL10 : List (bY × Nat) := [(ey142, 1), (ey256, 1)]
theorem eGL10 : dk_G egL10 [0, 0] := dk_G_cons emp142 (dk_G_cons emp256 (dk_G_nil))
theorem ecL10 : ∀ e ∈ ekL10, dk_ok eyL egL10 e := fun e he => dk_ck_ok eGL10 ((by decide +kernel : ∀ e ∈ ekL10, dk_ck eyL egL10 [0, 0] e = true) e he)
def ekL11 : List cN := [(479, .aload_n 1, 1, 0, 0, 0, 0, 0),
  (480, .invokevirtual 70, 3, 0, 1, 0, 4147, 10),
  (483, .pop, 1, 0, 0, 0, 0, 0),
  (484, .aload_n 2, 1, 0, 0, 0, 0, 0),
  (485, .invokevirtual 73, 3, 1, 1, 0, 8024, 11),
  (488, .pop, 1, 0, 0, 0, 0, 0),
  (489, .goto 583, 3, 0, 0, 0, 0, 0)]
def egL11 : List (bY × Nat) := [(ey143, 1), (ey257, 1)]
theorem eGL11 : dk_G egL11 [0, 0] := dk_G_cons emp143 (dk_G_cons emp257 (dk_G_nil))
theorem ecL11 : ∀ e ∈ ekL11, dk_ok eyL egL11 e := fun e he => dk_ck_ok eGL11 ((by decide +kernel : ∀ e ∈ ekL11, dk_ck eyL egL11 [0, 0] e = true) e he)
def ekL12 : List cN := [(492, .aload_n 1, 1, 0, 0, 0, 0, 0),
  (493, .invokevirtual 74, 3, 0, 1, 0, 4159, 10),
  (496, .pop, 1, 0, 0, 0, 0, 0),
  (497, .aload_n 2, 1, 0, 0, 0, 0, 0),
  (498, .invokevirtual 77, 3, 1, 1, 0, 7062, 11),
  (501, .pop, 1, 0, 0, 0, 0, 0),
  (502, .goto 570, 3, 0, 0, 0, 0, 0)]
def egL12 : List (bY × Nat) := [(ey144, 2), (ey245, 1)]
theorem eGL12 : dk_G egL12 [0, 0] := dk_G_cons emp144 (dk_G_cons emp245 (dk_G_nil))
theorem ecL12 : ∀ e ∈ ekL12, dk_ok eyL egL12 e := fun e he => dk_ck_ok eGL12 ((by decide +kernel : ∀ e ∈ ekL12, dk_ck eyL egL12 [0, 0] e = true) e he)
def ekL13 : List cN := [(505, .aload_n 1, 1, 0, 0, 0, 0, 0),
  (506, .aload_n 0, 1, 0, 0, 0, 0, 0),
  (507, .iload 4, 2, 0, 0, 0, 0, 0),
  (509, .iconst 1, 1, 0, 0, 0, 0, 0),
  (510, .iadd, 1, 0, 0, 0, 0, 0),
  (511, .iaload, 1, 0, 0, 0, 0, 0),
  (512, .invokevirtual 78, 3, 0, 2, 0, 4163, 10),
  (515, .pop, 1, 0, 0, 0, 0, 0),
  (516, .aload_n 2, 1, 0, 0, 0, 0, 0),
  (517, .aload_n 0, 1, 0, 0, 0, 0, 0),
  (518, .iload 4, 2, 0, 0, 0, 0, 0),
  (520, .iconst 1, 1, 0, 0, 0, 0, 0),
  (521, .iadd, 1, 0, 0, 0, 0, 0),
  (522, .iaload, 1, 0, 0, 0, 0, 0),
  (523, .invokevirtual 81, 3, 1, 2, 0, 8028, 11),
  (526, .pop, 1, 0, 0, 0, 0, 0),
  (527, .goto 545, 3, 0, 0, 0, 0, 0)]
def egL13 : List (bY × Nat) := [(ey145, 2), (ey258, 2)]
theorem eGL13 : dk_G egL13 [0, 0] := dk_G_cons emp145 (dk_G_cons emp258 (dk_G_nil))
theorem ecL13 : ∀ e ∈ ekL13, dk_ok eyL egL13 e := fun e he => dk_ck_ok eGL13 ((by decide +kernel : ∀ e ∈ ekL13, dk_ck eyL egL13 [0, 0] e = true) e he)
def ekL14 : List cN := [(530, .aload_n 1, 1, 0, 0, 0, 0, 0),
  (531, .aload_n 0, 1, 0, 0, 0, 0, 0),
  (532, .iload 4, 2, 0, 0, 0, 0, 0),
  (534, .iconst 1, 1, 0, 0, 0, 0, 0),
  (535, .iadd, 1, 0, 0, 0, 0, 0),
  (536, .iaload, 1, 0, 0, 0, 0, 0),
  (537, .aload_n 0, 1, 0, 0, 0, 0, 0),
  (538, .iload 4, 2, 0, 0, 0, 0, 0),
  (540, .iconst 2, 1, 0, 0, 0, 0, 0),
  (541, .iadd, 1, 0, 0, 0, 0, 0),
  (542, .iaload, 1, 0, 0, 0, 0, 0),
  (543, .aload_n 3, 1, 0, 0, 0, 0, 0),
  (547, .istore 5, 2, 0, 0, 0, 0, 0),
  (549, .aload_n 2, 1, 0, 0, 0, 0, 0),
  (550, .aload_n 0, 1, 0, 0, 0, 0, 0),
  (551, .iload 4, 2, 0, 0, 0, 0, 0),
  (553, .iconst 1, 1, 0, 0, 0, 0, 0),
  (554, .iadd, 1, 0, 0, 0, 0, 0),
  (555, .iaload, 1, 0, 0, 0, 0, 0),
  (556, .aload_n 0, 1, 0, 0, 0, 0, 0),
  (557, .iload 4, 2, 0, 0, 0, 0, 0),
  (559, .iconst 2, 1, 0, 0, 0, 0, 0),
  (560, .iadd, 1, 0, 0, 0, 0, 0),
  (561, .iaload, 1, 0, 0, 0, 0, 0),
  (562, .invokevirtual 87, 3, 0, 3, 0, 8032, 11),
  (565, .istore 6, 2, 0, 0, 0, 0, 0),
  (567, .goto 505, 3, 0, 0, 0, 0, 0)]
def egL14 : List (bY × Nat) := [(ey261, 3)]
theorem eGL14 : dk_G egL14 [0] := dk_G_cons emp261 (dk_G_nil)
theorem ecL14 : ∀ e ∈ ekL14, dk_ok eyL egL14 e := fun e he => dk_ck_ok eGL14 ((by decide +kernel : ∀ e ∈ ekL14, dk_ck eyL egL14 [0] e = true) e he)
def ekL15 : List cN := [(570, .aload_n 1, 1, 0, 0, 0, 0, 0),
  (571, .aload_n 0, 1, 0, 0, 0, 0, 0),
  (572, .iload 4, 2, 0, 0, 0, 0, 0),
  (574, .iconst 1, 1, 0, 0, 0, 0, 0),
  (575, .iadd, 1, 0, 0, 0, 0, 0),
  (576, .iaload, 1, 0, 0, 0, 0, 0),
  (577, .aload_n 0, 1, 0, 0, 0, 0, 0),
  (578, .iload 4, 2, 0, 0, 0, 0, 0),
  (580, .iconst 2, 1, 0, 0, 0, 0, 0),
  (581, .iadd, 1, 0, 0, 0, 0, 0),
  (582, .iaload, 1, 0, 0, 0, 0, 0),
  (583, .aload_n 0, 1, 0, 0, 0, 0, 0),
  (584, .iload 4, 2, 0, 0, 0, 0, 0),
  (586, .iconst 3, 1, 0, 0, 0, 0, 0),
  (587, .iadd, 1, 0, 0, 0, 0, 0),
  (588, .iaload, 1, 0, 0, 0, 0, 0),
  (589, .invokevirtual 88, 3, 0, 4, 0, 4176, 10),
  (592, .pop, 1, 0, 0, 0, 0, 0),
  (593, .aload_n 2, 1, 0, 0, 0, 0, 0),
  (594, .aload_n 0, 1, 0, 0, 0, 0, 0),
  (595, .iload 4, 2, 0, 0, 0, 0, 0),
  (597, .iconst 1, 1, 0, 0, 0, 0, 0),
  (598, .iadd, 1, 0, 0, 0, 0, 0),
  (599, .iaload, 1, 0, 0, 0, 0, 0),
  (600, .aload_n 0, 1, 0, 0, 0, 0, 0),
  (601, .iload 4, 2, 0, 0, 0, 0, 0),
  (603, .iconst 2, 1, 0, 0, 0, 0, 0),
  (604, .iadd, 1, 0, 0, 0, 0, 0),
  (605, .iaload, 1, 0, 0, 0, 0, 0),
  (606, .aload_n 0, 1, 0, 0, 0, 0, 0),
  (607, .iload 4, 2, 0, 0, 0, 0, 0),
  (609, .iconst 3, 1, 0, 0, 0, 0, 0),
  (610, .iadd, 1, 0, 0, 0, 0, 0),
  (611, .iaload, 1, 0, 0, 0, 0, 0),
  (612, .invokevirtual 92, 3, 1, 4, 0, 8051, 11),
  (615, .pop, 1, 0, 0, 0, 0, 0),
  (616, .goto 456, 3, 0, 0, 0, 0, 0)]
def egL15 : List (bY × Nat) := [(ey147, 6), (ey262, 4)]
theorem eGL15 : dk_G egL15 [0, 0] := dk_G_cons emp147 (dk_G_cons emp262 (dk_G_nil))
theorem ecL15 : ∀ e ∈ ekL15, dk_ok eyL egL15 e := fun e he => dk_ck_ok eGL15 ((by decide +kernel : ∀ e ∈ ekL15, dk_ck eyL egL15 [0, 0] e = true) e he)
def ekL16 : List cN := [(619, .aload_n 1, 1, 0, 0, 0, 0, 0),
  (620, .aload_n 0, 1, 0, 0, 0, 0, 0),
  (621, .iload 4, 2, 0, 0, 0, 0, 0),
  (623, .iconst 1, 1, 0, 0, 0, 0, 0),
  (624, .iadd, 1, 0, 0, 0, 0, 0),
  (625, .iaload, 1, 0, 0, 0, 0, 0),
  (626, .aload_n 0, 1, 0, 0, 0, 0, 0),
  (627, .iload 4, 2, 0, 0, 0, 0, 0),
  (629, .iconst 2, 1, 0, 0, 0, 0, 0),
  (630, .iadd, 1, 0, 0, 0, 0, 0),
  (631, .iaload, 1, 0, 0, 0, 0, 0),
  (632, .invokevirtual 93, 3, 0, 3, 0, 4184, 10),
  (635, .pop, 1, 0, 0, 0, 0, 0),
  (636, .aload_n 2, 1, 0, 0, 0, 0, 0),
  (637, .aload_n 0, 1, 0, 0, 0, 0, 0),
  (638, .iload 4, 2, 0, 0, 0, 0, 0),
  (640, .iconst 1, 1, 0, 0, 0, 0, 0),
  (641, .iadd, 1, 0, 0, 0, 0, 0),
  (642, .iaload, 1, 0, 0, 0, 0, 0),
  (643, .aload_n 0, 1, 0, 0, 0, 0, 0),
  (644, .iload 4, 2, 0, 0, 0, 0, 0),
  (646, .iconst 2, 1, 0, 0, 0, 0, 0),
  (647, .iadd, 1, 0, 0, 0, 0, 0),
  (648, .iaload, 1, 0, 0, 0, 0, 0),
  (649, .invokevirtual 96, 3, 1, 3, 0, 8055, 11),
  (652, .pop, 1, 0, 0, 0, 0, 0),
  (653, .goto 419, 3, 0, 0, 0, 0, 0)]
def egL16 : List (bY × Nat) := [(ey148, 3), (ey263, 3)]
theorem eGL16 : dk_G egL16 [0, 0] := dk_G_cons emp148 (dk_G_cons emp263 (dk_G_nil))
theorem ecL16 : ∀ e ∈ ekL16, dk_ok eyL egL16 e := fun e he => dk_ck_ok eGL16 ((by decide +kernel : ∀ e ∈ ekL16, dk_ck eyL egL16 [0, 0] e = true) e he)
def ekL17 : List cN := [(656, .aload_n 1, 1, 0, 0, 0, 0, 0),
  (657, .aload_n 0, 1, 0, 0, 0, 0, 0),
  (658, .iload 4, 2, 0, 0, 0, 0, 0),
  (660, .iconst 1, 1, 0, 0, 0, 0, 0),
  (661, .iadd, 1, 0, 0, 0, 0, 0),
  (662, .iaload, 1, 0, 0, 0, 0, 0),
  (663, .aload_n 0, 1, 0, 0, 0, 0, 0),
  (664, .iload 4, 2, 0, 0, 0, 0, 0),
  (666, .iconst 2, 1, 0, 0, 0, 0, 0),
  (667, .iadd, 1, 0, 0, 0, 0, 0),
  (668, .iaload, 1, 0, 0, 0, 0, 0),
  (669, .invokevirtual 97, 3, 0, 3, 0, 4193, 10),
  (672, .pop, 1, 0, 0, 0, 0, 0),
  (673, .aload_n 2, 1, 0, 0, 0, 0, 0),
  (674, .aload_n 0, 1, 0, 0, 0, 0, 0),
  (675, .iload 4, 2, 0, 0, 0, 0, 0),
  (677, .iconst 1, 1, 0, 0, 0, 0, 0),
  (678, .iadd, 1, 0, 0, 0, 0, 0),
  (679, .iaload, 1, 0, 0, 0, 0, 0),
  (680, .aload_n 0, 1, 0, 0, 0, 0, 0),
  (681, .iload 4, 2, 0, 0, 0, 0, 0),
  (683, .iconst 2, 1, 0, 0, 0, 0, 0),
  (684, .iadd, 1, 0, 0, 0, 0, 0),
  (685, .iaload, 1, 0, 0, 0, 0, 0),
  (686, .invokevirtual 100, 3, 1, 3, 0, 8059, 11),
  (689, .pop, 1, 0, 0, 0, 0, 0),
  (690, .goto 382, 3, 0, 0, 0, 0, 0)]
def egL17 : List (bY × Nat) := [(ey149, 3), (ey264, 3)]
theorem eGL17 : dk_G egL17 [0, 0] := dk_G_cons emp149 (dk_G_cons emp264 (dk_G_nil))
theorem ecL17 : ∀ e ∈ ekL17, dk_ok eyL egL17 e := fun e he => dk_ck_ok eGL17 ((by decide +kernel : ∀ e ∈ ekL17, dk_ck eyL egL17 [0, 0] e = true) e he)
def ekL18 : List cN := [(693, .aload_n 1, 1, 0, 0, 0, 0, 0),
  (694, .aload_n 0, 1, 0, 0, 0, 0, 0),
  (695, .iload 4, 2, 0, 0, 0, 0, 0),
  (697, .iconst 1, 1, 0, 0, 0, 0, 0),
  (698, .iadd, 1, 0, 0, 0, 0, 0),
  (699, .iaload, 1, 0, 0, 0, 0, 0),
  (700, .invokevirtual 101, 3, 0, 2, 0, 4197, 10),
  (703, .pop, 1, 0, 0, 0, 0, 0),
  (704, .aload_n 2, 1, 0, 0, 0, 0, 0),
  (705, .aload_n 0, 1, 0, 0, 0, 0, 0),
  (706, .iload 4, 2, 0, 0, 0, 0, 0),
  (708, .iconst 1, 1, 0, 0, 0, 0, 0),
  (709, .iadd, 1, 0, 0, 0, 0, 0),
  (710, .iaload, 1, 0, 0, 0, 0, 0),
  (711, .invokevirtual 104, 3, 1, 2, 0, 8063, 11),
  (714, .pop, 1, 0, 0, 0, 0, 0),
  (715, .goto 357, 3, 0, 0, 0, 0, 0)]
def egL18 : List (bY × Nat) := [(ey150, 2), (ey265, 2)]
theorem eGL18 : dk_G egL18 [0, 0] := dk_G_cons emp150 (dk_G_cons emp265 (dk_G_nil))
theorem ecL18 : ∀ e ∈ ekL18, dk_ok eyL egL18 e := fun e he => dk_ck_ok eGL18 ((by decide +kernel : ∀ e ∈ ekL18, dk_ck eyL egL18 [0, 0] e = true) e he)
def ekL19 : List cN := [(718, .aload_n 1, 1, 0, 0, 0, 0, 0),
  (719, .aload_n 0, 1, 0, 0, 0, 0, 0),
  (720, .iload 4, 2, 0, 0, 0, 0, 0),
  (722, .iconst 1, 1, 0, 0, 0, 0, 0),
  (723, .iadd, 1, 0, 0, 0, 0, 0),
  (724, .iaload, 1, 0, 0, 0, 0, 0),
  (725, .aload_n 3, 1, 0, 0, 0, 0, 0),
  (729, .istore 5, 2, 0, 0, 0, 0, 0),
  (731, .aload_n 2, 1, 0, 0, 0, 0, 0),
  (732, .aload_n 0, 1, 0, 0, 0, 0, 0),
  (733, .iload 4, 2, 0, 0, 0, 0, 0),
  (735, .iconst 1, 1, 0, 0, 0, 0, 0),
  (736, .iadd, 1, 0, 0, 0, 0, 0),
  (737, .iaload, 1, 0, 0, 0, 0, 0),
  (738, .invokevirtual 108, 3, 0, 2, 0, 8067, 11),
  (741, .istore 6, 2, 0, 0, 0, 0, 0),
  (743, .goto 329, 3, 0, 0, 0, 0, 0)]
def egL19 : List (bY × Nat) := [(ey266, 2)]
theorem eGL19 : dk_G egL19 [0] := dk_G_cons emp266 (dk_G_nil)
theorem ecL19 : ∀ e ∈ ekL19, dk_ok eyL egL19 e := fun e he => dk_ck_ok eGL19 ((by decide +kernel : ∀ e ∈ ekL19, dk_ck eyL egL19 [0] e = true) e he)
def ekL20 : List cN := [(746, .aload_n 1, 1, 0, 0, 0, 0, 0),
  (747, .invokevirtual 109, 3, 0, 1, 0, 4205, 10),
  (750, .pop, 1, 0, 0, 0, 0, 0),
  (751, .aload_n 2, 1, 0, 0, 0, 0, 0),
  (752, .invokevirtual 112, 3, 1, 1, 0, 8071, 11),
  (755, .pop, 1, 0, 0, 0, 0, 0),
  (756, .goto 316, 3, 0, 0, 0, 0, 0)]
def egL20 : List (bY × Nat) := [(ey152, 1), (ey267, 1)]
theorem eGL20 : dk_G egL20 [0, 0] := dk_G_cons emp152 (dk_G_cons emp267 (dk_G_nil))
theorem ecL20 : ∀ e ∈ ekL20, dk_ok eyL egL20 e := fun e he => dk_ck_ok eGL20 ((by decide +kernel : ∀ e ∈ ekL20, dk_ck eyL egL20 [0, 0] e = true) e he)
def ekL21 : List cN := [(759, .aload_n 1, 1, 0, 0, 0, 0, 0),
  (760, .aload_n 0, 1, 0, 0, 0, 0, 0),
  (761, .iload 4, 2, 0, 0, 0, 0, 0),
  (763, .iconst 1, 1, 0, 0, 0, 0, 0),
  (764, .iadd, 1, 0, 0, 0, 0, 0),
  (765, .iaload, 1, 0, 0, 0, 0, 0),
  (766, .invokevirtual 113, 3, 0, 2, 0, 4209, 10),
  (769, .pop, 1, 0, 0, 0, 0, 0),
  (770, .aload_n 2, 1, 0, 0, 0, 0, 0),
  (771, .aload_n 0, 1, 0, 0, 0, 0, 0),
  (772, .iload 4, 2, 0, 0, 0, 0, 0),
  (774, .iconst 1, 1, 0, 0, 0, 0, 0),
  (775, .iadd, 1, 0, 0, 0, 0, 0),
  (776, .iaload, 1, 0, 0, 0, 0, 0),
  (777, .invokevirtual 116, 3, 1, 2, 0, 8075, 11),
  (780, .pop, 1, 0, 0, 0, 0, 0),
  (781, .goto 291, 3, 0, 0, 0, 0, 0)]
def egL21 : List (bY × Nat) := [(ey153, 2), (ey268, 2)]
theorem eGL21 : dk_G egL21 [0, 0] := dk_G_cons emp153 (dk_G_cons emp268 (dk_G_nil))
theorem ecL21 : ∀ e ∈ ekL21, dk_ok eyL egL21 e := fun e he => dk_ck_ok eGL21 ((by decide +kernel : ∀ e ∈ ekL21, dk_ck eyL egL21 [0, 0] e = true) e he)
def ekL22 : List cN := [(784, .aload_n 1, 1, 0, 0, 0, 0, 0),
  (785, .invokevirtual 117, 3, 0, 1, 0, 4217, 10),
  (788, .pop, 1, 0, 0, 0, 0, 0),
  (789, .aload_n 2, 1, 0, 0, 0, 0, 0),
  (790, .invokevirtual 120, 3, 1, 1, 0, 8079, 11),
  (793, .pop, 1, 0, 0, 0, 0, 0),
  (794, .goto 278, 3, 0, 0, 0, 0, 0)]
def egL22 : List (bY × Nat) := [(ey154, 1), (ey269, 3)]
theorem eGL22 : dk_G egL22 [0, 0] := dk_G_cons emp154 (dk_G_cons emp269 (dk_G_nil))
theorem ecL22 : ∀ e ∈ ekL22, dk_ok eyL egL22 e := fun e he => dk_ck_ok eGL22 ((by decide +kernel : ∀ e ∈ ekL22, dk_ck eyL egL22 [0, 0] e = true) e he)
def ekL23 : List cN := [(797, .aload_n 1, 1, 0, 0, 0, 0, 0),
  (798, .invokevirtual 121, 3, 0, 1, 0, 4226, 10),
  (801, .pop, 1, 0, 0, 0, 0, 0),
  (802, .aload_n 2, 1, 0, 0, 0, 0, 0),
  (803, .invokevirtual 124, 3, 1, 1, 0, 8083, 11),
  (806, .pop, 1, 0, 0, 0, 0, 0),
  (807, .goto 265, 3, 0, 0, 0, 0, 0)]
def egL23 : List (bY × Nat) := [(ey155, 3), (ey271, 3)]
theorem eGL23 : dk_G egL23 [0, 0] := dk_G_cons emp155 (dk_G_cons emp271 (dk_G_nil))
theorem ecL23 : ∀ e ∈ ekL23, dk_ok eyL egL23 e := fun e he => dk_ck_ok eGL23 ((by decide +kernel : ∀ e ∈ ekL23, dk_ck eyL egL23 [0, 0] e = true) e he)
def ekL24 : List cN := [(810, .aload_n 1, 1, 0, 0, 0, 0, 0),
  (811, .aload_n 0, 1, 0, 0, 0, 0, 0),
  (812, .iload 4, 2, 0, 0, 0, 0, 0),
  (814, .iconst 1, 1, 0, 0, 0, 0, 0),
  (815, .iadd, 1, 0, 0, 0, 0, 0),
  (816, .iaload, 1, 0, 0, 0, 0, 0),
  (817, .invokevirtual 125, 3, 0, 2, 0, 5010, 10),
  (820, .pop, 1, 0, 0, 0, 0, 0),
  (821, .aload_n 2, 1, 0, 0, 0, 0, 0),
  (822, .aload_n 0, 1, 0, 0, 0, 0, 0),
  (823, .iload 4, 2, 0, 0, 0, 0, 0),
  (825, .iconst 1, 1, 0, 0, 0, 0, 0),
  (826, .iadd, 1, 0, 0, 0, 0, 0),
  (827, .iaload, 1, 0, 0, 0, 0, 0),
  (828, .invokevirtual 128, 3, 1, 2, 0, 8091, 11),
  (831, .pop, 1, 0, 0, 0, 0, 0),
  (832, .goto 240, 3, 0, 0, 0, 0, 0)]
def egL24 : List (bY × Nat) := [(ey157, 2), (ey272, 2)]
theorem eGL24 : dk_G egL24 [0, 0] := dk_G_cons emp157 (dk_G_cons emp272 (dk_G_nil))
theorem ecL24 : ∀ e ∈ ekL24, dk_ok eyL egL24 e := fun e he => dk_ck_ok eGL24 ((by decide +kernel : ∀ e ∈ ekL24, dk_ck eyL egL24 [0, 0] e = true) e he)
def ekL25 : List cN := [(835, .aload_n 1, 1, 0, 0, 0, 0, 0),
  (836, .aload_n 0, 1, 0, 0, 0, 0, 0),
  (837, .iload 4, 2, 0, 0, 0, 0, 0),
  (839, .iconst 1, 1, 0, 0, 0, 0, 0),
  (840, .iadd, 1, 0, 0, 0, 0, 0),
  (841, .iaload, 1, 0, 0, 0, 0, 0),
  (842, .aload_n 0, 1, 0, 0, 0, 0, 0),
  (843, .iload 4, 2, 0, 0, 0, 0, 0),
  (845, .iconst 2, 1, 0, 0, 0, 0, 0),
  (846, .iadd, 1, 0, 0, 0, 0, 0),
  (847, .iaload, 1, 0, 0, 0, 0, 0),
  (848, .invokevirtual 129, 3, 0, 3, 0, 5014, 10),
  (851, .pop, 1, 0, 0, 0, 0, 0),
  (852, .aload_n 2, 1, 0, 0, 0, 0, 0),
  (853, .aload_n 0, 1, 0, 0, 0, 0, 0),
  (854, .iload 4, 2, 0, 0, 0, 0, 0),
  (856, .iconst 1, 1, 0, 0, 0, 0, 0),
  (857, .iadd, 1, 0, 0, 0, 0, 0),
  (858, .iaload, 1, 0, 0, 0, 0, 0),
  (859, .aload_n 0, 1, 0, 0, 0, 0, 0),
  (860, .iload 4, 2, 0, 0, 0, 0, 0),
  (862, .iconst 2, 1, 0, 0, 0, 0, 0),
  (863, .iadd, 1, 0, 0, 0, 0, 0),
  (864, .iaload, 1, 0, 0, 0, 0, 0),
  (865, .invokevirtual 132, 3, 1, 3, 0, 8095, 11),
  (868, .pop, 1, 0, 0, 0, 0, 0),
  (869, .goto 203, 3, 0, 0, 0, 0, 0)]
def egL25 : List (bY × Nat) := [(ey158, 4), (ey278, 3)]
theorem eGL25 : dk_G egL25 [0, 0] := dk_G_cons emp158 (dk_G_cons emp278 (dk_G_nil))
theorem ecL25 : ∀ e ∈ ekL25, dk_ok eyL egL25 e := fun e he => dk_ck_ok eGL25 ((by decide +kernel : ∀ e ∈ ekL25, dk_ck eyL egL25 [0, 0] e = true) e he)
def ekL26 : List cN := [(872, .aload_n 1, 1, 0, 0, 0, 0, 0),
  (873, .aload_n 0, 1, 0, 0, 0, 0, 0),
  (874, .iload 4, 2, 0, 0, 0, 0, 0),
  (876, .iconst 1, 1, 0, 0, 0, 0, 0),
  (877, .iadd, 1, 0, 0, 0, 0, 0),
  (878, .iaload, 1, 0, 0, 0, 0, 0),
  (879, .aload_n 0, 1, 0, 0, 0, 0, 0),
  (880, .iload 4, 2, 0, 0, 0, 0, 0),
  (882, .iconst 2, 1, 0, 0, 0, 0, 0),
  (883, .iadd, 1, 0, 0, 0, 0, 0),
  (884, .iaload, 1, 0, 0, 0, 0, 0),
  (885, .invokevirtual 133, 3, 0, 3, 0, 5032, 10),
  (888, .pop, 1, 0, 0, 0, 0, 0),
  (889, .aload_n 2, 1, 0, 0, 0, 0, 0),
  (890, .aload_n 0, 1, 0, 0, 0, 0, 0),
  (891, .iload 4, 2, 0, 0, 0, 0, 0),
  (893, .iconst 1, 1, 0, 0, 0, 0, 0),
  (894, .iadd, 1, 0, 0, 0, 0, 0),
  (895, .iaload, 1, 0, 0, 0, 0, 0),
  (896, .aload_n 0, 1, 0, 0, 0, 0, 0),
  (897, .iload 4, 2, 0, 0, 0, 0, 0),
  (899, .iconst 2, 1, 0, 0, 0, 0, 0),
  (900, .iadd, 1, 0, 0, 0, 0, 0),
  (901, .iaload, 1, 0, 0, 0, 0, 0),
  (902, .invokevirtual 136, 3, 1, 3, 0, 8120, 11),
  (905, .pop, 1, 0, 0, 0, 0, 0),
  (906, .goto 166, 3, 0, 0, 0, 0, 0)]
def egL26 : List (bY × Nat) := [(ey159, 5), (ey279, 5)]
theorem eGL26 : dk_G egL26 [0, 0] := dk_G_cons emp159 (dk_G_cons emp279 (dk_G_nil))
theorem ecL26 : ∀ e ∈ ekL26, dk_ok eyL egL26 e := fun e he => dk_ck_ok eGL26 ((by decide +kernel : ∀ e ∈ ekL26, dk_ck eyL egL26 [0, 0] e = true) e he)
def ekL27 : List cN := [(909, .aload_n 1, 1, 0, 0, 0, 0, 0),
  (910, .aload_n 0, 1, 0, 0, 0, 0, 0),
  (911, .iload 4, 2, 0, 0, 0, 0, 0),
  (913, .iconst 1, 1, 0, 0, 0, 0, 0),
  (914, .iadd, 1, 0, 0, 0, 0, 0),
  (915, .iaload, 1, 0, 0, 0, 0, 0),
  (916, .invokevirtual 137, 3, 0, 2, 0, 5048, 10),
  (919, .pop, 1, 0, 0, 0, 0, 0),
  (920, .aload_n 2, 1, 0, 0, 0, 0, 0),
  (921, .aload_n 0, 1, 0, 0, 0, 0, 0),
  (922, .iload 4, 2, 0, 0, 0, 0, 0),
  (924, .iconst 1, 1, 0, 0, 0, 0, 0),
  (925, .iadd, 1, 0, 0, 0, 0, 0),
  (926, .iaload, 1, 0, 0, 0, 0, 0),
  (927, .invokevirtual 140, 3, 1, 2, 0, 8124, 11),
  (930, .pop, 1, 0, 0, 0, 0, 0),
  (931, .goto 141, 3, 0, 0, 0, 0, 0)]
def egL27 : List (bY × Nat) := [(ey161, 5), (ey283, 4)]
theorem eGL27 : dk_G egL27 [0, 0] := dk_G_cons emp161 (dk_G_cons emp283 (dk_G_nil))
theorem ecL27 : ∀ e ∈ ekL27, dk_ok eyL egL27 e := fun e he => dk_ck_ok eGL27 ((by decide +kernel : ∀ e ∈ ekL27, dk_ck eyL egL27 [0, 0] e = true) e he)
def ekL28 : List cN := [(934, .aload_n 1, 1, 0, 0, 0, 0, 0),
  (935, .aload_n 0, 1, 0, 0, 0, 0, 0),
  (936, .iload 4, 2, 0, 0, 0, 0, 0),
  (938, .iconst 1, 1, 0, 0, 0, 0, 0),
  (939, .iadd, 1, 0, 0, 0, 0, 0),
  (940, .iaload, 1, 0, 0, 0, 0, 0),
  (941, .invokevirtual 141, 3, 0, 2, 0, 5098, 10),
  (944, .pop, 1, 0, 0, 0, 0, 0),
  (945, .aload_n 2, 1, 0, 0, 0, 0, 0),
  (946, .aload_n 0, 1, 0, 0, 0, 0, 0),
  (947, .iload 4, 2, 0, 0, 0, 0, 0),
  (949, .iconst 1, 1, 0, 0, 0, 0, 0),
  (950, .iadd, 1, 0, 0, 0, 0, 0),
  (951, .iaload, 1, 0, 0, 0, 0, 0),
  (952, .invokevirtual 144, 3, 1, 2, 0, 8144, 11),
  (955, .pop, 1, 0, 0, 0, 0, 0),
  (956, .goto 116, 3, 0, 0, 0, 0, 0)]
def egL28 : List (bY × Nat) := [(ey163, 2), (ey285, 2)]
theorem eGL28 : dk_G egL28 [0, 0] := dk_G_cons emp163 (dk_G_cons emp285 (dk_G_nil))
theorem ecL28 : ∀ e ∈ ekL28, dk_ok eyL egL28 e := fun e he => dk_ck_ok eGL28 ((by decide +kernel : ∀ e ∈ ekL28, dk_ck eyL egL28 [0, 0] e = true) e he)
def ekL29 : List cN := [(959, .aload_n 1, 1, 0, 0, 0, 0, 0),
  (960, .invokevirtual 145, 3, 0, 1, 0, 5102, 10),
  (963, .pop, 1, 0, 0, 0, 0, 0),
  (964, .aload_n 2, 1, 0, 0, 0, 0, 0),
  (965, .invokevirtual 148, 3, 1, 1, 0, 8148, 11),
  (968, .pop, 1, 0, 0, 0, 0, 0),
  (969, .goto 103, 3, 0, 0, 0, 0, 0)]
def egL29 : List (bY × Nat) := [(ey164, 2), (ey294, 2)]
theorem eGL29 : dk_G egL29 [0, 0] := dk_G_cons emp164 (dk_G_cons emp294 (dk_G_nil))
theorem ecL29 : ∀ e ∈ ekL29, dk_ok eyL egL29 e := fun e he => dk_ck_ok eGL29 ((by decide +kernel : ∀ e ∈ ekL29, dk_ck eyL egL29 [0, 0] e = true) e he)
def ekL30 : List cN := [(972, .aload_n 1, 1, 0, 0, 0, 0, 0),
  (973, .aload_n 0, 1, 0, 0, 0, 0, 0),
  (974, .iload 4, 2, 0, 0, 0, 0, 0),
  (976, .iconst 1, 1, 0, 0, 0, 0, 0),
  (977, .iadd, 1, 0, 0, 0, 0, 0),
  (978, .iaload, 1, 0, 0, 0, 0, 0),
  (979, .invokevirtual 149, 3, 0, 2, 0, 5174, 10),
  (982, .pop, 1, 0, 0, 0, 0, 0),
  (983, .aload_n 2, 1, 0, 0, 0, 0, 0),
  (984, .aload_n 0, 1, 0, 0, 0, 0, 0),
  (985, .iload 4, 2, 0, 0, 0, 0, 0),
  (987, .iconst 1, 1, 0, 0, 0, 0, 0),
  (988, .iadd, 1, 0, 0, 0, 0, 0),
  (989, .iaload, 1, 0, 0, 0, 0, 0),
  (990, .invokevirtual 152, 3, 1, 2, 0, 8184, 11),
  (993, .pop, 1, 0, 0, 0, 0, 0),
  (994, .goto 78, 3, 0, 0, 0, 0, 0)]
def egL30 : List (bY × Nat) := [(ey165, 5), (ey296, 4)]
theorem eGL30 : dk_G egL30 [0, 0] := dk_G_cons emp165 (dk_G_cons emp296 (dk_G_nil))
theorem ecL30 : ∀ e ∈ ekL30, dk_ok eyL egL30 e := fun e he => dk_ck_ok eGL30 ((by decide +kernel : ∀ e ∈ ekL30, dk_ck eyL egL30 [0, 0] e = true) e he)
def ekL31 : List cN := [(997, .aload_n 1, 1, 0, 0, 0, 0, 0),
  (998, .aload_n 0, 1, 0, 0, 0, 0, 0),
  (999, .iload 4, 2, 0, 0, 0, 0, 0),
  (1001, .iconst 1, 1, 0, 0, 0, 0, 0),
  (1002, .iadd, 1, 0, 0, 0, 0, 0),
  (1003, .iaload, 1, 0, 0, 0, 0, 0),
  (1004, .invokevirtual 153, 3, 0, 2, 0, 5192, 10),
  (1007, .pop, 1, 0, 0, 0, 0, 0),
  (1008, .aload_n 2, 1, 0, 0, 0, 0, 0),
  (1009, .aload_n 0, 1, 0, 0, 0, 0, 0),
  (1010, .iload 4, 2, 0, 0, 0, 0, 0),
  (1012, .iconst 1, 1, 0, 0, 0, 0, 0),
  (1013, .iadd, 1, 0, 0, 0, 0, 0),
  (1014, .iaload, 1, 0, 0, 0, 0, 0),
  (1015, .invokevirtual 156, 3, 1, 2, 0, 8192, 11),
  (1018, .pop, 1, 0, 0, 0, 0, 0),
  (1019, .goto 53, 3, 0, 0, 0, 0, 0)]
def egL31 : List (bY × Nat) := [(ey166, 3), (ey297, 3)]
theorem eGL31 : dk_G egL31 [0, 0] := dk_G_cons emp166 (dk_G_cons emp297 (dk_G_nil))
theorem ecL31 : ∀ e ∈ ekL31, dk_ok eyL egL31 e := fun e he => dk_ck_ok eGL31 ((by decide +kernel : ∀ e ∈ ekL31, dk_ck eyL egL31 [0, 0] e = true) e he)
def ekL32 : List cN := [(1022, .aload_n 1, 1, 0, 0, 0, 0, 0),
  (1023, .aload_n 0, 1, 0, 0, 0, 0, 0),
  (1024, .iload 4, 2, 0, 0, 0, 0, 0),
  (1026, .iconst 1, 1, 0, 0, 0, 0, 0),
  (1027, .iadd, 1, 0, 0, 0, 0, 0),
  (1028, .iaload, 1, 0, 0, 0, 0, 0),
  (1029, .invokevirtual 157, 3, 0, 2, 0, 5196, 10),
  (1032, .aload_n 2, 1, 0, 0, 0, 0, 0),
  (1033, .aload_n 0, 1, 0, 0, 0, 0, 0),
  (1034, .iload 4, 2, 0, 0, 0, 0, 0),
  (1036, .iconst 1, 1, 0, 0, 0, 0, 0),
  (1037, .iadd, 1, 0, 0, 0, 0, 0),
  (1038, .iaload, 1, 0, 0, 0, 0, 0),
  (1039, .invokevirtual 160, 3, 1, 2, 0, 8196, 11),
  (1042, .if_icmp .eq 30, 3, 0, 0, 0, 0, 0),
  (1045, .iconst 0, 1, 0, 0, 0, 0, 0),
  (1046, .ireturn, 1, 1, 0, 0, 0, 0)]
def egL32 : List (bY × Nat) := [(ey167, 3), (ey298, 3)]
theorem eGL32 : dk_G egL32 [0, 0] := dk_G_cons emp167 (dk_G_cons emp298 (dk_G_nil))
theorem ecL32 : ∀ e ∈ ekL32, dk_ok eyL egL32 e := fun e he => dk_ck_ok eGL32 ((by decide +kernel : ∀ e ∈ ekL32, dk_ck eyL egL32 [0, 0] e = true) e he)
def ekL33 : List cN := [(1047, .aload_n 1, 1, 0, 0, 0, 0, 0),
  (1048, .aload_n 0, 1, 0, 0, 0, 0, 0),
  (1049, .iload 4, 2, 0, 0, 0, 0, 0),
  (1051, .iconst 1, 1, 0, 0, 0, 0, 0),
  (1052, .iadd, 1, 0, 0, 0, 0, 0),
  (1053, .iaload, 1, 0, 0, 0, 0, 0),
  (1054, .invokevirtual 161, 3, 0, 2, 0, 5200, 10),
  (1057, .pop, 1, 0, 0, 0, 0, 0),
  (1058, .aload_n 2, 1, 0, 0, 0, 0, 0),
  (1059, .aload_n 0, 1, 0, 0, 0, 0, 0),
  (1060, .iload 4, 2, 0, 0, 0, 0, 0),
  (1062, .iconst 1, 1, 0, 0, 0, 0, 0),
  (1063, .iadd, 1, 0, 0, 0, 0, 0),
  (1064, .iaload, 1, 0, 0, 0, 0, 0),
  (1065, .invokevirtual 164, 3, 1, 2, 0, 8200, 11),
  (1068, .pop, 1, 0, 0, 0, 0, 0),
  (1069, .goto 3, 3, 0, 0, 0, 0, 0)]
def egL33 : List (bY × Nat) := [(ey168, 2), (ey299, 2)]
theorem eGL33 : dk_G egL33 [0, 0] := dk_G_cons emp168 (dk_G_cons emp299 (dk_G_nil))
theorem ecL33 : ∀ e ∈ ekL33, dk_ok eyL egL33 e := fun e he => dk_ck_ok eGL33 ((by decide +kernel : ∀ e ∈ ekL33, dk_ck eyL egL33 [0, 0] e = true) e he)
def ekLT : List cN := [(1072, .iinc 4 6, 3, 0, 0, 0, 0, 0),
  (1075, .goto (-1052), 3, 0, 0, 0, 0, 0),
  (1078, .iconst 1, 1, 0, 0, 0, 0, 0),
  (1079, .ireturn, 1, 1, 0, 0, 0, 0)]
def egLT : List (bY × Nat) := []
theorem eGLT : dk_G egLT [] := dk_G_nil
theorem ecLT : ∀ e ∈ ekLT, dk_ok eyL egLT e := fun e he => dk_ck_ok eGLT ((by decide +kernel : ∀ e ∈ ekLT, dk_ck eyL egLT [] e = true) e he)
