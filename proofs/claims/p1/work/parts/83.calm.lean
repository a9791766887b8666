def cs_23_0 : List (List AW × AW) := [([xT, .inr (-2147483648, 0), xT, xT, xT, xT], xL (-1)),
  ([xT, xI 1, .inr (-2147483648, -1), xT, xT, xT], xL (-1)),
  ([xT, xI 1, xI 0, .inr (-2147483648, -1), xT, xT], xL 10),
  ([xT, xI 1, xI 0, xI 0, xT, xT], xL 1),
  ([xT, xI 1, xI 0, .inr (1, 2147483647), xT, xT], xL 10),
  ([xT, xI 1, xI 1, .inr (-2147483648, -1), xT, xT], xL 5),
  ([xT, xI 1, xI 1, xI 0, xT, xT], xL 1),
  ([xT, xI 1, xI 1, .inr (1, 2147483647), xT, xT], xL 5),
  ([xT, xI 1, xI 2, .inr (-2147483648, -1), xT, xT], xL 10),
  ([xT, xI 1, xI 2, xI 0, xT, xT], xL 3),
  ([xT, xI 1, xI 2, .inr (1, 2147483647), xT, xT], xL 10),
  ([xT, xI 1, xI 3, .inr (-2147483648, -1), xT, xT], xL 5),
  ([xT, xI 1, xI 3, xI 0, xT, xT], xL 2),
  ([xT, xI 1, xI 3, .inr (1, 2147483647), xT, xT], xL 5),
  ([xT, xI 1, xI 4, .inr (-2147483648, -1), xT, xT], xL 2),
  ([xT, xI 1, xI 4, xI 0, xT, xT], xL 1),
  ([xT, xI 1, xI 4, .inr (1, 2147483647), xT, xT], xL 2),
  ([xT, xI 1, xI 5, .inr (-2147483648, -1), xT, xT], xL 5),
  ([xT, xI 1, xI 5, xI 0, xT, xT], xL 3),
  ([xT, xI 1, xI 5, .inr (1, 2147483647), xT, xT], xL 5),
  ([xT, xI 1, xI 6, .inr (-2147483648, -1), xT, xT], xL 10),
  ([xT, xI 1, xI 6, xI 0, xT, xT], xL 7),
  ([xT, xI 1, xI 6, .inr (1, 2147483647), xT, xT], xL 10),
  ([xT, xI 1, xI 7, .inr (-2147483648, -1), xT, xT], xL 5),
  ([xT, xI 1, xI 7, xI 0, xT, xT], xL 4),
  ([xT, xI 1, xI 7, .inr (1, 2147483647), xT, xT], xL 5),
  ([xT, xI 1, xI 8, .inr (-2147483648, -1), xT, xT], xL 10),
  ([xT, xI 1, xI 8, xI 0, xT, xT], xL 9),
  ([xT, xI 1, xI 8, .inr (1, 2147483647), xT, xT], xL 10),
  ([xT, xI 1, xI 9, .inr (-2147483648, -1), xT, xT], xL 1)]
theorem ck_23_0 : cb_L nt1 873 900 cs_23_0 = true := by decide +kernel
def cs_23_1 : List (List AW × AW) := [([xT, xI 1, xI 9, xI 0, xT, xT], xL 1),
  ([xT, xI 1, xI 9, .inr (1, 2147483647), xT, xT], xL 1),
  ([xT, xI 1, .inr (10, 2147483647), xT, xT, xT], xL (-1)),
  ([xT, xI 2, .inr (-2147483648, -1), xT, xT, xT], xL (-1)),
  ([xT, xI 2, xI 0, .inr (-2147483648, -1), xT, xT], xL 100),
  ([xT, xI 2, xI 0, xI 0, xT, xT], xL 1),
  ([xT, xI 2, xI 0, .inr (1, 2147483647), xT, xT], xL 100),
  ([xT, xI 2, xI 1, .inr (-2147483648, -1), xT, xT], xL 25),
  ([xT, xI 2, xI 1, xI 0, xT, xT], xL 1),
  ([xT, xI 2, xI 1, .inr (1, 2147483647), xT, xT], xL 25),
  ([xT, xI 2, xI 2, .inr (-2147483648, -1), xT, xT], xL 100),
  ([xT, xI 2, xI 2, xI 0, xT, xT], xL 9),
  ([xT, xI 2, xI 2, .inr (1, 2147483647), xT, xT], xL 100),
  ([xT, xI 2, xI 3, .inr (-2147483648, -1), xT, xT], xL 25),
  ([xT, xI 2, xI 3, xI 0, xT, xT], xL 4),
  ([xT, xI 2, xI 3, .inr (1, 2147483647), xT, xT], xL 25),
  ([xT, xI 2, xI 4, .inr (-2147483648, -1), xT, xT], xL 4),
  ([xT, xI 2, xI 4, xI 0, xT, xT], xL 1),
  ([xT, xI 2, xI 4, .inr (1, 2147483647), xT, xT], xL 4),
  ([xT, xI 2, xI 5, .inr (-2147483648, -1), xT, xT], xL 25),
  ([xT, xI 2, xI 5, xI 0, xT, xT], xL 9),
  ([xT, xI 2, xI 5, .inr (1, 2147483647), xT, xT], xL 25),
  ([xT, xI 2, xI 6, .inr (-2147483648, -1), xT, xT], xL 100),
  ([xT, xI 2, xI 6, xI 0, xT, xT], xL 49),
  ([xT, xI 2, xI 6, .inr (1, 2147483647), xT, xT], xL 100),
  ([xT, xI 2, xI 7, .inr (-2147483648, -1), xT, xT], xL 25),
  ([xT, xI 2, xI 7, xI 0, xT, xT], xL 16),
  ([xT, xI 2, xI 7, .inr (1, 2147483647), xT, xT], xL 25),
  ([xT, xI 2, xI 8, .inr (-2147483648, -1), xT, xT], xL 100),
  ([xT, xI 2, xI 8, xI 0, xT, xT], xL 81)]
theorem ck_23_1 : cb_L nt1 873 900 cs_23_1 = true := by decide +kernel
def cs_23_2 : List (List AW × AW) := [([xT, xI 2, xI 8, .inr (1, 2147483647), xT, xT], xL 100),
  ([xT, xI 2, xI 9, .inr (-2147483648, -1), xT, xT], xL 1),
  ([xT, xI 2, xI 9, xI 0, xT, xT], xL 1),
  ([xT, xI 2, xI 9, .inr (1, 2147483647), xT, xT], xL 1),
  ([xT, xI 2, .inr (10, 2147483647), xT, xT, xT], xL (-1)),
  ([xT, xI 3, .inr (-2147483648, -1), xT, xT, xT], xL (-1)),
  ([xT, xI 3, xI 0, .inr (-2147483648, -1), xT, xT], xL 1000),
  ([xT, xI 3, xI 0, xI 0, xT, xT], xL 1),
  ([xT, xI 3, xI 0, .inr (1, 2147483647), xT, xT], xL 1000),
  ([xT, xI 3, xI 1, .inr (-2147483648, -1), xT, xT], xL 125),
  ([xT, xI 3, xI 1, xI 0, xT, xT], xL 1),
  ([xT, xI 3, xI 1, .inr (1, 2147483647), xT, xT], xL 125),
  ([xT, xI 3, xI 2, .inr (-2147483648, -1), xT, xT], xL 1000),
  ([xT, xI 3, xI 2, xI 0, xT, xT], xL 27),
  ([xT, xI 3, xI 2, .inr (1, 2147483647), xT, xT], xL 1000),
  ([xT, xI 3, xI 3, .inr (-2147483648, -1), xT, xT], xL 125),
  ([xT, xI 3, xI 3, xI 0, xT, xT], xL 8),
  ([xT, xI 3, xI 3, .inr (1, 2147483647), xT, xT], xL 125),
  ([xT, xI 3, xI 4, .inr (-2147483648, -1), xT, xT], xL 8),
  ([xT, xI 3, xI 4, xI 0, xT, xT], xL 1),
  ([xT, xI 3, xI 4, .inr (1, 2147483647), xT, xT], xL 8),
  ([xT, xI 3, xI 5, .inr (-2147483648, -1), xT, xT], xL 125),
  ([xT, xI 3, xI 5, xI 0, xT, xT], xL 27),
  ([xT, xI 3, xI 5, .inr (1, 2147483647), xT, xT], xL 125),
  ([xT, xI 3, xI 6, .inr (-2147483648, -1), xT, xT], xL 1000),
  ([xT, xI 3, xI 6, xI 0, xT, xT], xL 343),
  ([xT, xI 3, xI 6, .inr (1, 2147483647), xT, xT], xL 1000),
  ([xT, xI 3, xI 7, .inr (-2147483648, -1), xT, xT], xL 125),
  ([xT, xI 3, xI 7, xI 0, xT, xT], xL 64),
  ([xT, xI 3, xI 7, .inr (1, 2147483647), xT, xT], xL 125)]
theorem ck_23_2 : cb_L nt1 873 900 cs_23_2 = true := by decide +kernel
def cs_23_3 : List (List AW × AW) := [([xT, xI 3, xI 8, .inr (-2147483648, -1), xT, xT], xL 1000),
  ([xT, xI 3, xI 8, xI 0, xT, xT], xL 729),
  ([xT, xI 3, xI 8, .inr (1, 2147483647), xT, xT], xL 1000),
  ([xT, xI 3, xI 9, .inr (-2147483648, -1), xT, xT], xL 1),
  ([xT, xI 3, xI 9, xI 0, xT, xT], xL 1),
  ([xT, xI 3, xI 9, .inr (1, 2147483647), xT, xT], xL 1),
  ([xT, xI 3, .inr (10, 2147483647), xT, xT, xT], xL (-1)),
  ([xT, xI 4, .inr (-2147483648, -1), xT, xT, xT], xL (-1)),
  ([xT, xI 4, xI 0, .inr (-2147483648, -1), xT, xT], xL 10000),
  ([xT, xI 4, xI 0, xI 0, xT, xT], xL 1),
  ([xT, xI 4, xI 0, .inr (1, 2147483647), xT, xT], xL 10000),
  ([xT, xI 4, xI 1, .inr (-2147483648, -1), xT, xT], xL 625),
  ([xT, xI 4, xI 1, xI 0, xT, xT], xL 1),
  ([xT, xI 4, xI 1, .inr (1, 2147483647), xT, xT], xL 625),
  ([xT, xI 4, xI 2, .inr (-2147483648, -1), xT, xT], xL 10000),
  ([xT, xI 4, xI 2, xI 0, xT, xT], xL 81),
  ([xT, xI 4, xI 2, .inr (1, 2147483647), xT, xT], xL 10000),
  ([xT, xI 4, xI 3, .inr (-2147483648, -1), xT, xT], xL 625),
  ([xT, xI 4, xI 3, xI 0, xT, xT], xL 16),
  ([xT, xI 4, xI 3, .inr (1, 2147483647), xT, xT], xL 625),
  ([xT, xI 4, xI 4, .inr (-2147483648, -1), xT, xT], xL 16),
  ([xT, xI 4, xI 4, xI 0, xT, xT], xL 1),
  ([xT, xI 4, xI 4, .inr (1, 2147483647), xT, xT], xL 16),
  ([xT, xI 4, xI 5, .inr (-2147483648, -1), xT, xT], xL 625),
  ([xT, xI 4, xI 5, xI 0, xT, xT], xL 81),
  ([xT, xI 4, xI 5, .inr (1, 2147483647), xT, xT], xL 625),
  ([xT, xI 4, xI 6, .inr (-2147483648, -1), xT, xT], xL 10000),
  ([xT, xI 4, xI 6, xI 0, xT, xT], xL 2401),
  ([xT, xI 4, xI 6, .inr (1, 2147483647), xT, xT], xL 10000),
  ([xT, xI 4, xI 7, .inr (-2147483648, -1), xT, xT], xL 625)]
theorem ck_23_3 : cb_L nt1 873 900 cs_23_3 = true := by decide +kernel
def cs_23_4 : List (List AW × AW) := [([xT, xI 4, xI 7, xI 0, xT, xT], xL 256),
  ([xT, xI 4, xI 7, .inr (1, 2147483647), xT, xT], xL 625),
  ([xT, xI 4, xI 8, .inr (-2147483648, -1), xT, xT], xL 10000),
  ([xT, xI 4, xI 8, xI 0, xT, xT], xL 6561),
  ([xT, xI 4, xI 8, .inr (1, 2147483647), xT, xT], xL 10000),
  ([xT, xI 4, xI 9, .inr (-2147483648, -1), xT, xT], xL 1),
  ([xT, xI 4, xI 9, xI 0, xT, xT], xL 1),
  ([xT, xI 4, xI 9, .inr (1, 2147483647), xT, xT], xL 1),
  ([xT, xI 4, .inr (10, 2147483647), xT, xT, xT], xL (-1)),
  ([xT, xI 5, .inr (-2147483648, -1), xT, xT, xT], xL (-1)),
  ([xT, xI 5, xI 0, .inr (-2147483648, -1), xT, xT], xL 100000),
  ([xT, xI 5, xI 0, xI 0, xT, xT], xL 1),
  ([xT, xI 5, xI 0, .inr (1, 2147483647), xT, xT], xL 100000),
  ([xT, xI 5, xI 1, .inr (-2147483648, -1), xT, xT], xL 3125),
  ([xT, xI 5, xI 1, xI 0, xT, xT], xL 1),
  ([xT, xI 5, xI 1, .inr (1, 2147483647), xT, xT], xL 3125),
  ([xT, xI 5, xI 2, .inr (-2147483648, -1), xT, xT], xL 100000),
  ([xT, xI 5, xI 2, xI 0, xT, xT], xL 243),
  ([xT, xI 5, xI 2, .inr (1, 2147483647), xT, xT], xL 100000),
  ([xT, xI 5, xI 3, .inr (-2147483648, -1), xT, xT], xL 3125),
  ([xT, xI 5, xI 3, xI 0, xT, xT], xL 32),
  ([xT, xI 5, xI 3, .inr (1, 2147483647), xT, xT], xL 3125),
  ([xT, xI 5, xI 4, .inr (-2147483648, -1), xT, xT], xL 32),
  ([xT, xI 5, xI 4, xI 0, xT, xT], xL 1),
  ([xT, xI 5, xI 4, .inr (1, 2147483647), xT, xT], xL 32),
  ([xT, xI 5, xI 5, .inr (-2147483648, -1), xT, xT], xL 3125),
  ([xT, xI 5, xI 5, xI 0, xT, xT], xL 243),
  ([xT, xI 5, xI 5, .inr (1, 2147483647), xT, xT], xL 3125),
  ([xT, xI 5, xI 6, .inr (-2147483648, -1), xT, xT], xL 100000),
  ([xT, xI 5, xI 6, xI 0, xT, xT], xL 16807)]
theorem ck_23_4 : cb_L nt1 873 900 cs_23_4 = true := by decide +kernel
def cs_23_5 : List (List AW × AW) := [([xT, xI 5, xI 6, .inr (1, 2147483647), xT, xT], xL 100000),
  ([xT, xI 5, xI 7, .inr (-2147483648, -1), xT, xT], xL 3125),
  ([xT, xI 5, xI 7, xI 0, xT, xT], xL 1024),
  ([xT, xI 5, xI 7, .inr (1, 2147483647), xT, xT], xL 3125),
  ([xT, xI 5, xI 8, .inr (-2147483648, -1), xT, xT], xL 100000),
  ([xT, xI 5, xI 8, xI 0, xT, xT], xL 59049),
  ([xT, xI 5, xI 8, .inr (1, 2147483647), xT, xT], xL 100000),
  ([xT, xI 5, xI 9, .inr (-2147483648, -1), xT, xT], xL 1),
  ([xT, xI 5, xI 9, xI 0, xT, xT], xL 1),
  ([xT, xI 5, xI 9, .inr (1, 2147483647), xT, xT], xL 1),
  ([xT, xI 5, .inr (10, 2147483647), xT, xT, xT], xL (-1)),
  ([xT, xI 6, .inr (-2147483648, -1), xT, xT, xT], xL (-1)),
  ([xT, xI 6, xI 0, .inr (-2147483648, -1), xT, xT], xL 1000000),
  ([xT, xI 6, xI 0, xI 0, xT, xT], xL 1),
  ([xT, xI 6, xI 0, .inr (1, 2147483647), xT, xT], xL 1000000),
  ([xT, xI 6, xI 1, .inr (-2147483648, -1), xT, xT], xL 15625),
  ([xT, xI 6, xI 1, xI 0, xT, xT], xL 1),
  ([xT, xI 6, xI 1, .inr (1, 2147483647), xT, xT], xL 15625),
  ([xT, xI 6, xI 2, .inr (-2147483648, -1), xT, xT], xL 1000000),
  ([xT, xI 6, xI 2, xI 0, xT, xT], xL 729),
  ([xT, xI 6, xI 2, .inr (1, 2147483647), xT, xT], xL 1000000),
  ([xT, xI 6, xI 3, .inr (-2147483648, -1), xT, xT], xL 15625),
  ([xT, xI 6, xI 3, xI 0, xT, xT], xL 64),
  ([xT, xI 6, xI 3, .inr (1, 2147483647), xT, xT], xL 15625),
  ([xT, xI 6, xI 4, .inr (-2147483648, -1), xT, xT], xL 64),
  ([xT, xI 6, xI 4, xI 0, xT, xT], xL 1),
  ([xT, xI 6, xI 4, .inr (1, 2147483647), xT, xT], xL 64),
  ([xT, xI 6, xI 5, .inr (-2147483648, -1), xT, xT], xL 15625),
  ([xT, xI 6, xI 5, xI 0, xT, xT], xL 729),
  ([xT, xI 6, xI 5, .inr (1, 2147483647), xT, xT], xL 15625)]
theorem ck_23_5 : cb_L nt1 873 900 cs_23_5 = true := by decide +kernel
def cs_23_6 : List (List AW × AW) := [([xT, xI 6, xI 6, .inr (-2147483648, -1), xT, xT], xL 1000000),
  ([xT, xI 6, xI 6, xI 0, xT, xT], xL 117649),
  ([xT, xI 6, xI 6, .inr (1, 2147483647), xT, xT], xL 1000000),
  ([xT, xI 6, xI 7, .inr (-2147483648, -1), xT, xT], xL 15625),
  ([xT, xI 6, xI 7, xI 0, xT, xT], xL 4096),
  ([xT, xI 6, xI 7, .inr (1, 2147483647), xT, xT], xL 15625),
  ([xT, xI 6, xI 8, .inr (-2147483648, -1), xT, xT], xL 1000000),
  ([xT, xI 6, xI 8, xI 0, xT, xT], xL 531441),
  ([xT, xI 6, xI 8, .inr (1, 2147483647), xT, xT], xL 1000000),
  ([xT, xI 6, xI 9, .inr (-2147483648, -1), xT, xT], xL 1),
  ([xT, xI 6, xI 9, xI 0, xT, xT], xL 1),
  ([xT, xI 6, xI 9, .inr (1, 2147483647), xT, xT], xL 1),
  ([xT, xI 6, .inr (10, 2147483647), xT, xT, xT], xL (-1)),
  ([xT, xI 7, .inr (-2147483648, -1), xT, xT, xT], xL (-1)),
  ([xT, xI 7, xI 0, .inr (-2147483648, -1), xT, xT], xL 10000000),
  ([xT, xI 7, xI 0, xI 0, xT, xT], xL 1),
  ([xT, xI 7, xI 0, .inr (1, 2147483647), xT, xT], xL 10000000),
  ([xT, xI 7, xI 1, .inr (-2147483648, -1), xT, xT], xL 78125),
  ([xT, xI 7, xI 1, xI 0, xT, xT], xL 1),
  ([xT, xI 7, xI 1, .inr (1, 2147483647), xT, xT], xL 78125),
  ([xT, xI 7, xI 2, .inr (-2147483648, -1), xT, xT], xL 10000000),
  ([xT, xI 7, xI 2, xI 0, xT, xT], xL 2187),
  ([xT, xI 7, xI 2, .inr (1, 2147483647), xT, xT], xL 10000000),
  ([xT, xI 7, xI 3, .inr (-2147483648, -1), xT, xT], xL 78125),
  ([xT, xI 7, xI 3, xI 0, xT, xT], xL 128),
  ([xT, xI 7, xI 3, .inr (1, 2147483647), xT, xT], xL 78125),
  ([xT, xI 7, xI 4, .inr (-2147483648, -1), xT, xT], xL 128),
  ([xT, xI 7, xI 4, xI 0, xT, xT], xL 1),
  ([xT, xI 7, xI 4, .inr (1, 2147483647), xT, xT], xL 128),
  ([xT, xI 7, xI 5, .inr (-2147483648, -1), xT, xT], xL 78125)]
theorem ck_23_6 : cb_L nt1 873 900 cs_23_6 = true := by decide +kernel
def cs_23_7 : List (List AW × AW) := [([xT, xI 7, xI 5, xI 0, xT, xT], xL 2187),
  ([xT, xI 7, xI 5, .inr (1, 2147483647), xT, xT], xL 78125),
  ([xT, xI 7, xI 6, .inr (-2147483648, -1), xT, xT], xL 10000000),
  ([xT, xI 7, xI 6, xI 0, xT, xT], xL 823543),
  ([xT, xI 7, xI 6, .inr (1, 2147483647), xT, xT], xL 10000000),
  ([xT, xI 7, xI 7, .inr (-2147483648, -1), xT, xT], xL 78125),
  ([xT, xI 7, xI 7, xI 0, xT, xT], xL 16384),
  ([xT, xI 7, xI 7, .inr (1, 2147483647), xT, xT], xL 78125),
  ([xT, xI 7, xI 8, .inr (-2147483648, -1), xT, xT], xL 10000000),
  ([xT, xI 7, xI 8, xI 0, xT, xT], xL 4782969),
  ([xT, xI 7, xI 8, .inr (1, 2147483647), xT, xT], xL 10000000),
  ([xT, xI 7, xI 9, .inr (-2147483648, -1), xT, xT], xL 1),
  ([xT, xI 7, xI 9, xI 0, xT, xT], xL 1),
  ([xT, xI 7, xI 9, .inr (1, 2147483647), xT, xT], xL 1),
  ([xT, xI 7, .inr (10, 2147483647), xT, xT, xT], xL (-1)),
  ([xT, xI 8, .inr (-2147483648, -1), xT, xT, xT], xL (-1)),
  ([xT, xI 8, xI 0, .inr (-2147483648, -1), xT, xT], xL 100000000),
  ([xT, xI 8, xI 0, xI 0, xT, xT], xL 1),
  ([xT, xI 8, xI 0, .inr (1, 2147483647), xT, xT], xL 100000000),
  ([xT, xI 8, xI 1, .inr (-2147483648, -1), xT, xT], xL 390625),
  ([xT, xI 8, xI 1, xI 0, xT, xT], xL 1),
  ([xT, xI 8, xI 1, .inr (1, 2147483647), xT, xT], xL 390625),
  ([xT, xI 8, xI 2, .inr (-2147483648, -1), xT, xT], xL 100000000),
  ([xT, xI 8, xI 2, xI 0, xT, xT], xL 6561),
  ([xT, xI 8, xI 2, .inr (1, 2147483647), xT, xT], xL 100000000),
  ([xT, xI 8, xI 3, .inr (-2147483648, -1), xT, xT], xL 390625),
  ([xT, xI 8, xI 3, xI 0, xT, xT], xL 256),
  ([xT, xI 8, xI 3, .inr (1, 2147483647), xT, xT], xL 390625),
  ([xT, xI 8, xI 4, .inr (-2147483648, -1), xT, xT], xL 256),
  ([xT, xI 8, xI 4, xI 0, xT, xT], xL 1)]
theorem ck_23_7 : cb_L nt1 873 900 cs_23_7 = true := by decide +kernel
def cs_23_8 : List (List AW × AW) := [([xT, xI 8, xI 4, .inr (1, 2147483647), xT, xT], xL 256),
  ([xT, xI 8, xI 5, .inr (-2147483648, -1), xT, xT], xL 390625),
  ([xT, xI 8, xI 5, xI 0, xT, xT], xL 6561),
  ([xT, xI 8, xI 5, .inr (1, 2147483647), xT, xT], xL 390625),
  ([xT, xI 8, xI 6, .inr (-2147483648, -1), xT, xT], xL 100000000),
  ([xT, xI 8, xI 6, xI 0, xT, xT], xL 5764801),
  ([xT, xI 8, xI 6, .inr (1, 2147483647), xT, xT], xL 100000000),
  ([xT, xI 8, xI 7, .inr (-2147483648, -1), xT, xT], xL 390625),
  ([xT, xI 8, xI 7, xI 0, xT, xT], xL 65536),
  ([xT, xI 8, xI 7, .inr (1, 2147483647), xT, xT], xL 390625),
  ([xT, xI 8, xI 8, .inr (-2147483648, -1), xT, xT], xL 100000000),
  ([xT, xI 8, xI 8, xI 0, xT, xT], xL 43046721),
  ([xT, xI 8, xI 8, .inr (1, 2147483647), xT, xT], xL 100000000),
  ([xT, xI 8, xI 9, .inr (-2147483648, -1), xT, xT], xL 1),
  ([xT, xI 8, xI 9, xI 0, xT, xT], xL 1),
  ([xT, xI 8, xI 9, .inr (1, 2147483647), xT, xT], xL 1),
  ([xT, xI 8, .inr (10, 2147483647), xT, xT, xT], xL (-1)),
  ([xT, xI 9, .inr (-2147483648, -1), xT, xT, xT], xL (-1)),
  ([xT, xI 9, xI 0, .inr (-2147483648, -1), xT, xT], xL 1000000000),
  ([xT, xI 9, xI 0, xI 0, xT, xT], xL 1),
  ([xT, xI 9, xI 0, .inr (1, 2147483647), xT, xT], xL 1000000000),
  ([xT, xI 9, xI 1, .inr (-2147483648, -1), xT, xT], xL 1953125),
  ([xT, xI 9, xI 1, xI 0, xT, xT], xL 1),
  ([xT, xI 9, xI 1, .inr (1, 2147483647), xT, xT], xL 1953125),
  ([xT, xI 9, xI 2, .inr (-2147483648, -1), xT, xT], xL 1000000000),
  ([xT, xI 9, xI 2, xI 0, xT, xT], xL 19683),
  ([xT, xI 9, xI 2, .inr (1, 2147483647), xT, xT], xL 1000000000),
  ([xT, xI 9, xI 3, .inr (-2147483648, -1), xT, xT], xL 1953125),
  ([xT, xI 9, xI 3, xI 0, xT, xT], xL 512),
  ([xT, xI 9, xI 3, .inr (1, 2147483647), xT, xT], xL 1953125)]
theorem ck_23_8 : cb_L nt1 873 900 cs_23_8 = true := by decide +kernel
def cs_23_9 : List (List AW × AW) := [([xT, xI 9, xI 4, .inr (-2147483648, -1), xT, xT], xL 512),
  ([xT, xI 9, xI 4, xI 0, xT, xT], xL 1),
  ([xT, xI 9, xI 4, .inr (1, 2147483647), xT, xT], xL 512),
  ([xT, xI 9, xI 5, .inr (-2147483648, -1), xT, xT], xL 1953125),
  ([xT, xI 9, xI 5, xI 0, xT, xT], xL 19683),
  ([xT, xI 9, xI 5, .inr (1, 2147483647), xT, xT], xL 1953125),
  ([xT, xI 9, xI 6, .inr (-2147483648, -1), xT, xT], xL 1000000000),
  ([xT, xI 9, xI 6, xI 0, xT, xT], xL 40353607),
  ([xT, xI 9, xI 6, .inr (1, 2147483647), xT, xT], xL 1000000000),
  ([xT, xI 9, xI 7, .inr (-2147483648, -1), xT, xT], xL 1953125),
  ([xT, xI 9, xI 7, xI 0, xT, xT], xL 262144),
  ([xT, xI 9, xI 7, .inr (1, 2147483647), xT, xT], xL 1953125),
  ([xT, xI 9, xI 8, .inr (-2147483648, -1), xT, xT], xL 1000000000),
  ([xT, xI 9, xI 8, xI 0, xT, xT], xL 387420489),
  ([xT, xI 9, xI 8, .inr (1, 2147483647), xT, xT], xL 1000000000),
  ([xT, xI 9, xI 9, .inr (-2147483648, -1), xT, xT], xL 1),
  ([xT, xI 9, xI 9, xI 0, xT, xT], xL 1),
  ([xT, xI 9, xI 9, .inr (1, 2147483647), xT, xT], xL 1),
  ([xT, xI 9, .inr (10, 2147483647), xT, xT, xT], xL (-1)),
  ([xT, .inr (10, 2147483647), xT, xT, xT, xT], xL (-1))]
theorem ck_23_9 : cb_L nt1 873 900 cs_23_9 = true := by decide +kernel
set_option maxHeartbeats 4000000 in
theorem case_23 {xs : Nat → Int} {h : AH} (hf : FR 6 xs h) (q0 : -2147483648 ≤ xs 0 ∧ xs 0 ≤ 2147483647) (q1 : -2147483648 ≤ xs 1 ∧ xs 1 ≤ 2147483647) (q2 : -2147483648 ≤ xs 2 ∧ xs 2 ≤ 2147483647) (q3 : -2147483648 ≤ xs 3 ∧ xs 3 ≤ 2147483647) (q4 : -2147483648 ≤ xs 4 ∧ xs 4 ≤ 2147483647) (q5 : -2147483648 ≤ xs 5 ∧ xs 5 ≤ 2147483647) : XP 1000 321 873 lsc [] h lwQ := by
  by_cases z1_0 : xs 1 ≤ 0
  · skip
    exact leaf2 nt1_s ck_23_0 hf 0 rfl (ab_rg (by omega) (by omega)) (ab_rg (by omega) (by omega)) (ab_rg (by omega) (by omega)) (ab_rg (by omega) (by omega)) (ab_rg (by omega) (by omega)) (ab_rg (by omega) (by omega))
  by_cases z1_1 : xs 1 ≤ 1
  · skip
    by_cases z2_0 : xs 2 ≤ -1
    · skip
      exact leaf2 nt1_s ck_23_0 hf 1 rfl (ab_rg (by omega) (by omega)) (ab_ex (by omega)) (ab_rg (by omega) (by omega)) (ab_rg (by omega) (by omega)) (ab_rg (by omega) (by omega)) (ab_rg (by omega) (by omega))
    by_cases z2_1 : xs 2 ≤ 0
    · skip
      by_cases z3_0 : xs 3 ≤ -1
      · skip
        exact leaf2 nt1_s ck_23_0 hf 2 rfl (ab_rg (by omega) (by omega)) (ab_ex (by omega)) (ab_ex (by omega)) (ab_rg (by omega) (by omega)) (ab_rg (by omega) (by omega)) (ab_rg (by omega) (by omega))
      by_cases z3_1 : xs 3 ≤ 0
      · skip
        exact leaf2 nt1_s ck_23_0 hf 3 rfl (ab_rg (by omega) (by omega)) (ab_ex (by omega)) (ab_ex (by omega)) (ab_ex (by omega)) (ab_rg (by omega) (by omega)) (ab_rg (by omega) (by omega))
      exact leaf2 nt1_s ck_23_0 hf 4 rfl (ab_rg (by omega) (by omega)) (ab_ex (by omega)) (ab_ex (by omega)) (ab_rg (by omega) (by omega)) (ab_rg (by omega) (by omega)) (ab_rg (by omega) (by omega))
    by_cases z2_2 : xs 2 ≤ 1
    · skip
      by_cases z3_0 : xs 3 ≤ -1
      · skip
        exact leaf2 nt1_s ck_23_0 hf 5 rfl (ab_rg (by omega) (by omega)) (ab_ex (by omega)) (ab_ex (by omega)) (ab_rg (by omega) (by omega)) (ab_rg (by omega) (by omega)) (ab_rg (by omega) (by omega))
      by_cases z3_1 : xs 3 ≤ 0
      · skip
        exact leaf2 nt1_s ck_23_0 hf 6 rfl (ab_rg (by omega) (by omega)) (ab_ex (by omega)) (ab_ex (by omega)) (ab_ex (by omega)) (ab_rg (by omega) (by omega)) (ab_rg (by omega) (by omega))
      exact leaf2 nt1_s ck_23_0 hf 7 rfl (ab_rg (by omega) (by omega)) (ab_ex (by omega)) (ab_ex (by omega)) (ab_rg (by omega) (by omega)) (ab_rg (by omega) (by omega)) (ab_rg (by omega) (by omega))
    by_cases z2_3 : xs 2 ≤ 2
    · skip
      by_cases z3_0 : xs 3 ≤ -1
      · skip
        exact leaf2 nt1_s ck_23_0 hf 8 rfl (ab_rg (by omega) (by omega)) (ab_ex (by omega)) (ab_ex (by omega)) (ab_rg (by omega) (by omega)) (ab_rg (by omega) (by omega)) (ab_rg (by omega) (by omega))
      by_cases z3_1 : xs 3 ≤ 0
      · skip
        exact leaf2 nt1_s ck_23_0 hf 9 rfl (ab_rg (by omega) (by omega)) (ab_ex (by omega)) (ab_ex (by omega)) (ab_ex (by omega)) (ab_rg (by omega) (by omega)) (ab_rg (by omega) (by omega))
      exact leaf2 nt1_s ck_23_0 hf 10 rfl (ab_rg (by omega) (by omega)) (ab_ex (by omega)) (ab_ex (by omega)) (ab_rg (by omega) (by omega)) (ab_rg (by omega) (by omega)) (ab_rg (by omega) (by omega))
    by_cases z2_4 : xs 2 ≤ 3
    · skip
      by_cases z3_0 : xs 3 ≤ -1
      · skip
        exact leaf2 nt1_s ck_23_0 hf 11 rfl (ab_rg (by omega) (by omega)) (ab_ex (by omega)) (ab_ex (by omega)) (ab_rg (by omega) (by omega)) (ab_rg (by omega) (by omega)) (ab_rg (by omega) (by omega))
      by_cases z3_1 : xs 3 ≤ 0
      · skip
        exact leaf2 nt1_s ck_23_0 hf 12 rfl (ab_rg (by omega) (by omega)) (ab_ex (by omega)) (ab_ex (by omega)) (ab_ex (by omega)) (ab_rg (by omega) (by omega)) (ab_rg (by omega) (by omega))
      exact leaf2 nt1_s ck_23_0 hf 13 rfl (ab_rg (by omega) (by omega)) (ab_ex (by omega)) (ab_ex (by omega)) (ab_rg (by omega) (by omega)) (ab_rg (by omega) (by omega)) (ab_rg (by omega) (by omega))
    by_cases z2_5 : xs 2 ≤ 4
    · skip
      by_cases z3_0 : xs 3 ≤ -1
      · skip
        exact leaf2 nt1_s ck_23_0 hf 14 rfl (ab_rg (by omega) (by omega)) (ab_ex (by omega)) (ab_ex (by omega)) (ab_rg (by omega) (by omega)) (ab_rg (by omega) (by omega)) (ab_rg (by omega) (by omega))
      by_cases z3_1 : xs 3 ≤ 0
      · skip
        exact leaf2 nt1_s ck_23_0 hf 15 rfl (ab_rg (by omega) (by omega)) (ab_ex (by omega)) (ab_ex (by omega)) (ab_ex (by omega)) (ab_rg (by omega) (by omega)) (ab_rg (by omega) (by omega))
      exact leaf2 nt1_s ck_23_0 hf 16 rfl (ab_rg (by omega) (by omega)) (ab_ex (by omega)) (ab_ex (by omega)) (ab_rg (by omega) (by omega)) (ab_rg (by omega) (by omega)) (ab_rg (by omega) (by omega))
    by_cases z2_6 : xs 2 ≤ 5
    · skip
      by_cases z3_0 : xs 3 ≤ -1
      · skip
        exact leaf2 nt1_s ck_23_0 hf 17 rfl (ab_rg (by omega) (by omega)) (ab_ex (by omega)) (ab_ex (by omega)) (ab_rg (by omega) (by omega)) (ab_rg (by omega) (by omega)) (ab_rg (by omega) (by omega))
      by_cases z3_1 : xs 3 ≤ 0
      · skip
        exact leaf2 nt1_s ck_23_0 hf 18 rfl (ab_rg (by omega) (by omega)) (ab_ex (by omega)) (ab_ex (by omega)) (ab_ex (by omega)) (ab_rg (by omega) (by omega)) (ab_rg (by omega) (by omega))
      exact leaf2 nt1_s ck_23_0 hf 19 rfl (ab_rg (by omega) (by omega)) (ab_ex (by omega)) (ab_ex (by omega)) (ab_rg (by omega) (by omega)) (ab_rg (by omega) (by omega)) (ab_rg (by omega) (by omega))
    by_cases z2_7 : xs 2 ≤ 6
    · skip
      by_cases z3_0 : xs 3 ≤ -1
      · skip
        exact leaf2 nt1_s ck_23_0 hf 20 rfl (ab_rg (by omega) (by omega)) (ab_ex (by omega)) (ab_ex (by omega)) (ab_rg (by omega) (by omega)) (ab_rg (by omega) (by omega)) (ab_rg (by omega) (by omega))
      by_cases z3_1 : xs 3 ≤ 0
      · skip
        exact leaf2 nt1_s ck_23_0 hf 21 rfl (ab_rg (by omega) (by omega)) (ab_ex (by omega)) (ab_ex (by omega)) (ab_ex (by omega)) (ab_rg (by omega) (by omega)) (ab_rg (by omega) (by omega))
      exact leaf2 nt1_s ck_23_0 hf 22 rfl (ab_rg (by omega) (by omega)) (ab_ex (by omega)) (ab_ex (by omega)) (ab_rg (by omega) (by omega)) (ab_rg (by omega) (by omega)) (ab_rg (by omega) (by omega))
    by_cases z2_8 : xs 2 ≤ 7
    · skip
      by_cases z3_0 : xs 3 ≤ -1
      · skip
        exact leaf2 nt1_s ck_23_0 hf 23 rfl (ab_rg (by omega) (by omega)) (ab_ex (by omega)) (ab_ex (by omega)) (ab_rg (by omega) (by omega)) (ab_rg (by omega) (by omega)) (ab_rg (by omega) (by omega))
      by_cases z3_1 : xs 3 ≤ 0
      · skip
        exact leaf2 nt1_s ck_23_0 hf 24 rfl (ab_rg (by omega) (by omega)) (ab_ex (by omega)) (ab_ex (by omega)) (ab_ex (by omega)) (ab_rg (by omega) (by omega)) (ab_rg (by omega) (by omega))
      exact leaf2 nt1_s ck_23_0 hf 25 rfl (ab_rg (by omega) (by omega)) (ab_ex (by omega)) (ab_ex (by omega)) (ab_rg (by omega) (by omega)) (ab_rg (by omega) (by omega)) (ab_rg (by omega) (by omega))
    by_cases z2_9 : xs 2 ≤ 8
    · skip
      by_cases z3_0 : xs 3 ≤ -1
      · skip
        exact leaf2 nt1_s ck_23_0 hf 26 rfl (ab_rg (by omega) (by omega)) (ab_ex (by omega)) (ab_ex (by omega)) (ab_rg (by omega) (by omega)) (ab_rg (by omega) (by omega)) (ab_rg (by omega) (by omega))
      by_cases z3_1 : xs 3 ≤ 0
      · skip
        exact leaf2 nt1_s ck_23_0 hf 27 rfl (ab_rg (by omega) (by omega)) (ab_ex (by omega)) (ab_ex (by omega)) (ab_ex (by omega)) (ab_rg (by omega) (by omega)) (ab_rg (by omega) (by omega))
      exact leaf2 nt1_s ck_23_0 hf 28 rfl (ab_rg (by omega) (by omega)) (ab_ex (by omega)) (ab_ex (by omega)) (ab_rg (by omega) (by omega)) (ab_rg (by omega) (by omega)) (ab_rg (by omega) (by omega))
    by_cases z2_10 : xs 2 ≤ 9
    · skip
      by_cases z3_0 : xs 3 ≤ -1
      · skip
        exact leaf2 nt1_s ck_23_0 hf 29 rfl (ab_rg (by omega) (by omega)) (ab_ex (by omega)) (ab_ex (by omega)) (ab_rg (by omega) (by omega)) (ab_rg (by omega) (by omega)) (ab_rg (by omega) (by omega))
      by_cases z3_1 : xs 3 ≤ 0
      · skip
        exact leaf2 nt1_s ck_23_1 hf 0 rfl (ab_rg (by omega) (by omega)) (ab_ex (by omega)) (ab_ex (by omega)) (ab_ex (by omega)) (ab_rg (by omega) (by omega)) (ab_rg (by omega) (by omega))
      exact leaf2 nt1_s ck_23_1 hf 1 rfl (ab_rg (by omega) (by omega)) (ab_ex (by omega)) (ab_ex (by omega)) (ab_rg (by omega) (by omega)) (ab_rg (by omega) (by omega)) (ab_rg (by omega) (by omega))
    exact leaf2 nt1_s ck_23_1 hf 2 rfl (ab_rg (by omega) (by omega)) (ab_ex (by omega)) (ab_rg (by omega) (by omega)) (ab_rg (by omega) (by omega)) (ab_rg (by omega) (by omega)) (ab_rg (by omega) (by omega))
  by_cases z1_2 : xs 1 ≤ 2
  · skip
    by_cases z2_0 : xs 2 ≤ -1
    · skip
      exact leaf2 nt1_s ck_23_1 hf 3 rfl (ab_rg (by omega) (by omega)) (ab_ex (by omega)) (ab_rg (by omega) (by omega)) (ab_rg (by omega) (by omega)) (ab_rg (by omega) (by omega)) (ab_rg (by omega) (by omega))
    by_cases z2_1 : xs 2 ≤ 0
    · skip
      by_cases z3_0 : xs 3 ≤ -1
      · skip
        exact leaf2 nt1_s ck_23_1 hf 4 rfl (ab_rg (by omega) (by omega)) (ab_ex (by omega)) (ab_ex (by omega)) (ab_rg (by omega) (by omega)) (ab_rg (by omega) (by omega)) (ab_rg (by omega) (by omega))
      by_cases z3_1 : xs 3 ≤ 0
      · skip
        exact leaf2 nt1_s ck_23_1 hf 5 rfl (ab_rg (by omega) (by omega)) (ab_ex (by omega)) (ab_ex (by omega)) (ab_ex (by omega)) (ab_rg (by omega) (by omega)) (ab_rg (by omega) (by omega))
      exact leaf2 nt1_s ck_23_1 hf 6 rfl (ab_rg (by omega) (by omega)) (ab_ex (by omega)) (ab_ex (by omega)) (ab_rg (by omega) (by omega)) (ab_rg (by omega) (by omega)) (ab_rg (by omega) (by omega))
    by_cases z2_2 : xs 2 ≤ 1
    · skip
      by_cases z3_0 : xs 3 ≤ -1
      · skip
        exact leaf2 nt1_s ck_23_1 hf 7 rfl (ab_rg (by omega) (by omega)) (ab_ex (by omega)) (ab_ex (by omega)) (ab_rg (by omega) (by omega)) (ab_rg (by omega) (by omega)) (ab_rg (by omega) (by omega))
      by_cases z3_1 : xs 3 ≤ 0
      · skip
        exact leaf2 nt1_s ck_23_1 hf 8 rfl (ab_rg (by omega) (by omega)) (ab_ex (by omega)) (ab_ex (by omega)) (ab_ex (by omega)) (ab_rg (by omega) (by omega)) (ab_rg (by omega) (by omega))
      exact leaf2 nt1_s ck_23_1 hf 9 rfl (ab_rg (by omega) (by omega)) (ab_ex (by omega)) (ab_ex (by omega)) (ab_rg (by omega) (by omega)) (ab_rg (by omega) (by omega)) (ab_rg (by omega) (by omega))
    by_cases z2_3 : xs 2 ≤ 2
    · skip
      by_cases z3_0 : xs 3 ≤ -1
      · skip
        exact leaf2 nt1_s ck_23_1 hf 10 rfl (ab_rg (by omega) (by omega)) (ab_ex (by omega)) (ab_ex (by omega)) (ab_rg (by omega) (by omega)) (ab_rg (by omega) (by omega)) (ab_rg (by omega) (by omega))
      by_cases z3_1 : xs 3 ≤ 0
      · skip
        exact leaf2 nt1_s ck_23_1 hf 11 rfl (ab_rg (by omega) (by omega)) (ab_ex (by omega)) (ab_ex (by omega)) (ab_ex (by omega)) (ab_rg (by omega) (by omega)) (ab_rg (by omega) (by omega))
      exact leaf2 nt1_s ck_23_1 hf 12 rfl (ab_rg (by omega) (by omega)) (ab_ex (by omega)) (ab_ex (by omega)) (ab_rg (by omega) (by omega)) (ab_rg (by omega) (by omega)) (ab_rg (by omega) (by omega))
    by_cases z2_4 : xs 2 ≤ 3
    · skip
      by_cases z3_0 : xs 3 ≤ -1
      · skip
        exact leaf2 nt1_s ck_23_1 hf 13 rfl (ab_rg (by omega) (by omega)) (ab_ex (by omega)) (ab_ex (by omega)) (ab_rg (by omega) (by omega)) (ab_rg (by omega) (by omega)) (ab_rg (by omega) (by omega))
      by_cases z3_1 : xs 3 ≤ 0
      · skip
        exact leaf2 nt1_s ck_23_1 hf 14 rfl (ab_rg (by omega) (by omega)) (ab_ex (by omega)) (ab_ex (by omega)) (ab_ex (by omega)) (ab_rg (by omega) (by omega)) (ab_rg (by omega) (by omega))
      exact leaf2 nt1_s ck_23_1 hf 15 rfl (ab_rg (by omega) (by omega)) (ab_ex (by omega)) (ab_ex (by omega)) (ab_rg (by omega) (by omega)) (ab_rg (by omega) (by omega)) (ab_rg (by omega) (by omega))
    by_cases z2_5 : xs 2 ≤ 4
    · skip
      by_cases z3_0 : xs 3 ≤ -1
      · skip
        exact leaf2 nt1_s ck_23_1 hf 16 rfl (ab_rg (by omega) (by omega)) (ab_ex (by omega)) (ab_ex (by omega)) (ab_rg (by omega) (by omega)) (ab_rg (by omega) (by omega)) (ab_rg (by omega) (by omega))
      by_cases z3_1 : xs 3 ≤ 0
      · skip
        exact leaf2 nt1_s ck_23_1 hf 17 rfl (ab_rg (by omega) (by omega)) (ab_ex (by omega)) (ab_ex (by omega)) (ab_ex (by omega)) (ab_rg (by omega) (by omega)) (ab_rg (by omega) (by omega))
      exact leaf2 nt1_s ck_23_1 hf 18 rfl (ab_rg (by omega) (by omega)) (ab_ex (by omega)) (ab_ex (by omega)) (ab_rg (by omega) (by omega)) (ab_rg (by omega) (by omega)) (ab_rg (by omega) (by omega))
    by_cases z2_6 : xs 2 ≤ 5
    · skip
      by_cases z3_0 : xs 3 ≤ -1
      · skip
        exact leaf2 nt1_s ck_23_1 hf 19 rfl (ab_rg (by omega) (by omega)) (ab_ex (by omega)) (ab_ex (by omega)) (ab_rg (by omega) (by omega)) (ab_rg (by omega) (by omega)) (ab_rg (by omega) (by omega))
      by_cases z3_1 : xs 3 ≤ 0
      · skip
        exact leaf2 nt1_s ck_23_1 hf 20 rfl (ab_rg (by omega) (by omega)) (ab_ex (by omega)) (ab_ex (by omega)) (ab_ex (by omega)) (ab_rg (by omega) (by omega)) (ab_rg (by omega) (by omega))
      exact leaf2 nt1_s ck_23_1 hf 21 rfl (ab_rg (by omega) (by omega)) (ab_ex (by omega)) (ab_ex (by omega)) (ab_rg (by omega) (by omega)) (ab_rg (by omega) (by omega)) (ab_rg (by omega) (by omega))
    by_cases z2_7 : xs 2 ≤ 6
    · skip
      by_cases z3_0 : xs 3 ≤ -1
      · skip
        exact leaf2 nt1_s ck_23_1 hf 22 rfl (ab_rg (by omega) (by omega)) (ab_ex (by omega)) (ab_ex (by omega)) (ab_rg (by omega) (by omega)) (ab_rg (by omega) (by omega)) (ab_rg (by omega) (by omega))
      by_cases z3_1 : xs 3 ≤ 0
      · skip
        exact leaf2 nt1_s ck_23_1 hf 23 rfl (ab_rg (by omega) (by omega)) (ab_ex (by omega)) (ab_ex (by omega)) (ab_ex (by omega)) (ab_rg (by omega) (by omega)) (ab_rg (by omega) (by omega))
      exact leaf2 nt1_s ck_23_1 hf 24 rfl (ab_rg (by omega) (by omega)) (ab_ex (by omega)) (ab_ex (by omega)) (ab_rg (by omega) (by omega)) (ab_rg (by omega) (by omega)) (ab_rg (by omega) (by omega))
    by_cases z2_8 : xs 2 ≤ 7
    · skip
      by_cases z3_0 : xs 3 ≤ -1
      · skip
        exact leaf2 nt1_s ck_23_1 hf 25 rfl (ab_rg (by omega) (by omega)) (ab_ex (by omega)) (ab_ex (by omega)) (ab_rg (by omega) (by omega)) (ab_rg (by omega) (by omega)) (ab_rg (by omega) (by omega))
      by_cases z3_1 : xs 3 ≤ 0
      · skip
        exact leaf2 nt1_s ck_23_1 hf 26 rfl (ab_rg (by omega) (by omega)) (ab_ex (by omega)) (ab_ex (by omega)) (ab_ex (by omega)) (ab_rg (by omega) (by omega)) (ab_rg (by omega) (by omega))
      exact leaf2 nt1_s ck_23_1 hf 27 rfl (ab_rg (by omega) (by omega)) (ab_ex (by omega)) (ab_ex (by omega)) (ab_rg (by omega) (by omega)) (ab_rg (by omega) (by omega)) (ab_rg (by omega) (by omega))
    by_cases z2_9 : xs 2 ≤ 8
    · skip
      by_cases z3_0 : xs 3 ≤ -1
      · skip
        exact leaf2 nt1_s ck_23_1 hf 28 rfl (ab_rg (by omega) (by omega)) (ab_ex (by omega)) (ab_ex (by omega)) (ab_rg (by omega) (by omega)) (ab_rg (by omega) (by omega)) (ab_rg (by omega) (by omega))
      by_cases z3_1 : xs 3 ≤ 0
      · skip
        exact leaf2 nt1_s ck_23_1 hf 29 rfl (ab_rg (by omega) (by omega)) (ab_ex (by omega)) (ab_ex (by omega)) (ab_ex (by omega)) (ab_rg (by omega) (by omega)) (ab_rg (by omega) (by omega))
      exact leaf2 nt1_s ck_23_2 hf 0 rfl (ab_rg (by omega) (by omega)) (ab_ex (by omega)) (ab_ex (by omega)) (ab_rg (by omega) (by omega)) (ab_rg (by omega) (by omega)) (ab_rg (by omega) (by omega))
    by_cases z2_10 : xs 2 ≤ 9
    · skip
      by_cases z3_0 : xs 3 ≤ -1
      · skip
        exact leaf2 nt1_s ck_23_2 hf 1 rfl (ab_rg (by omega) (by omega)) (ab_ex (by omega)) (ab_ex (by omega)) (ab_rg (by omega) (by omega)) (ab_rg (by omega) (by omega)) (ab_rg (by omega) (by omega))
      by_cases z3_1 : xs 3 ≤ 0
      · skip
        exact leaf2 nt1_s ck_23_2 hf 2 rfl (ab_rg (by omega) (by omega)) (ab_ex (by omega)) (ab_ex (by omega)) (ab_ex (by omega)) (ab_rg (by omega) (by omega)) (ab_rg (by omega) (by omega))
      exact leaf2 nt1_s ck_23_2 hf 3 rfl (ab_rg (by omega) (by omega)) (ab_ex (by omega)) (ab_ex (by omega)) (ab_rg (by omega) (by omega)) (ab_rg (by omega) (by omega)) (ab_rg (by omega) (by omega))
    exact leaf2 nt1_s ck_23_2 hf 4 rfl (ab_rg (by omega) (by omega)) (ab_ex (by omega)) (ab_rg (by omega) (by omega)) (ab_rg (by omega) (by omega)) (ab_rg (by omega) (by omega)) (ab_rg (by omega) (by omega))
  by_cases z1_3 : xs 1 ≤ 3
  · skip
    by_cases z2_0 : xs 2 ≤ -1
    · skip
      exact leaf2 nt1_s ck_23_2 hf 5 rfl (ab_rg (by omega) (by omega)) (ab_ex (by omega)) (ab_rg (by omega) (by omega)) (ab_rg (by omega) (by omega)) (ab_rg (by omega) (by omega)) (ab_rg (by omega) (by omega))
    by_cases z2_1 : xs 2 ≤ 0
    · skip
      by_cases z3_0 : xs 3 ≤ -1
      · skip
        exact leaf2 nt1_s ck_23_2 hf 6 rfl (ab_rg (by omega) (by omega)) (ab_ex (by omega)) (ab_ex (by omega)) (ab_rg (by omega) (by omega)) (ab_rg (by omega) (by omega)) (ab_rg (by omega) (by omega))
      by_cases z3_1 : xs 3 ≤ 0
      · skip
        exact leaf2 nt1_s ck_23_2 hf 7 rfl (ab_rg (by omega) (by omega)) (ab_ex (by omega)) (ab_ex (by omega)) (ab_ex (by omega)) (ab_rg (by omega) (by omega)) (ab_rg (by omega) (by omega))
      exact leaf2 nt1_s ck_23_2 hf 8 rfl (ab_rg (by omega) (by omega)) (ab_ex (by omega)) (ab_ex (by omega)) (ab_rg (by omega) (by omega)) (ab_rg (by omega) (by omega)) (ab_rg (by omega) (by omega))
    by_cases z2_2 : xs 2 ≤ 1
    · skip
      by_cases z3_0 : xs 3 ≤ -1
      · skip
        exact leaf2 nt1_s ck_23_2 hf 9 rfl (ab_rg (by omega) (by omega)) (ab_ex (by omega)) (ab_ex (by omega)) (ab_rg (by omega) (by omega)) (ab_rg (by omega) (by omega)) (ab_rg (by omega) (by omega))
      by_cases z3_1 : xs 3 ≤ 0
      · skip
        exact leaf2 nt1_s ck_23_2 hf 10 rfl (ab_rg (by omega) (by omega)) (ab_ex (by omega)) (ab_ex (by omega)) (ab_ex (by omega)) (ab_rg (by omega) (by omega)) (ab_rg (by omega) (by omega))
      exact leaf2 nt1_s ck_23_2 hf 11 rfl (ab_rg (by omega) (by omega)) (ab_ex (by omega)) (ab_ex (by omega)) (ab_rg (by omega) (by omega)) (ab_rg (by omega) (by omega)) (ab_rg (by omega) (by omega))
    by_cases z2_3 : xs 2 ≤ 2
    · skip
      by_cases z3_0 : xs 3 ≤ -1
      · skip
        exact leaf2 nt1_s ck_23_2 hf 12 rfl (ab_rg (by omega) (by omega)) (ab_ex (by omega)) (ab_ex (by omega)) (ab_rg (by omega) (by omega)) (ab_rg (by omega) (by omega)) (ab_rg (by omega) (by omega))
      by_cases z3_1 : xs 3 ≤ 0
      · skip
        exact leaf2 nt1_s ck_23_2 hf 13 rfl (ab_rg (by omega) (by omega)) (ab_ex (by omega)) (ab_ex (by omega)) (ab_ex (by omega)) (ab_rg (by omega) (by omega)) (ab_rg (by omega) (by omega))
      exact leaf2 nt1_s ck_23_2 hf 14 rfl (ab_rg (by omega) (by omega)) (ab_ex (by omega)) (ab_ex (by omega)) (ab_rg (by omega) (by omega)) (ab_rg (by omega) (by omega)) (ab_rg (by omega) (by omega))
    by_cases z2_4 : xs 2 ≤ 3
    · skip
      by_cases z3_0 : xs 3 ≤ -1
      · skip
        exact leaf2 nt1_s ck_23_2 hf 15 rfl (ab_rg (by omega) (by omega)) (ab_ex (by omega)) (ab_ex (by omega)) (ab_rg (by omega) (by omega)) (ab_rg (by omega) (by omega)) (ab_rg (by omega) (by omega))
      by_cases z3_1 : xs 3 ≤ 0
      · skip
        exact leaf2 nt1_s ck_23_2 hf 16 rfl (ab_rg (by omega) (by omega)) (ab_ex (by omega)) (ab_ex (by omega)) (ab_ex (by omega)) (ab_rg (by omega) (by omega)) (ab_rg (by omega) (by omega))
      exact leaf2 nt1_s ck_23_2 hf 17 rfl (ab_rg (by omega) (by omega)) (ab_ex (by omega)) (ab_ex (by omega)) (ab_rg (by omega) (by omega)) (ab_rg (by omega) (by omega)) (ab_rg (by omega) (by omega))
    by_cases z2_5 : xs 2 ≤ 4
    · skip
      by_cases z3_0 : xs 3 ≤ -1
      · skip
        exact leaf2 nt1_s ck_23_2 hf 18 rfl (ab_rg (by omega) (by omega)) (ab_ex (by omega)) (ab_ex (by omega)) (ab_rg (by omega) (by omega)) (ab_rg (by omega) (by omega)) (ab_rg (by omega) (by omega))
      by_cases z3_1 : xs 3 ≤ 0
      · skip
        exact leaf2 nt1_s ck_23_2 hf 19 rfl (ab_rg (by omega) (by omega)) (ab_ex (by omega)) (ab_ex (by omega)) (ab_ex (by omega)) (ab_rg (by omega) (by omega)) (ab_rg (by omega) (by omega))
      exact leaf2 nt1_s ck_23_2 hf 20 rfl (ab_rg (by omega) (by omega)) (ab_ex (by omega)) (ab_ex (by omega)) (ab_rg (by omega) (by omega)) (ab_rg (by omega) (by omega)) (ab_rg (by omega) (by omega))
    by_cases z2_6 : xs 2 ≤ 5
    · skip
      by_cases z3_0 : xs 3 ≤ -1
      · skip
        exact leaf2 nt1_s ck_23_2 hf 21 rfl (ab_rg (by omega) (by omega)) (ab_ex (by omega)) (ab_ex (by omega)) (ab_rg (by omega) (by omega)) (ab_rg (by omega) (by omega)) (ab_rg (by omega) (by omega))
      by_cases z3_1 : xs 3 ≤ 0
      · skip
        exact leaf2 nt1_s ck_23_2 hf 22 rfl (ab_rg (by omega) (by omega)) (ab_ex (by omega)) (ab_ex (by omega)) (ab_ex (by omega)) (ab_rg (by omega) (by omega)) (ab_rg (by omega) (by omega))
      exact leaf2 nt1_s ck_23_2 hf 23 rfl (ab_rg (by omega) (by omega)) (ab_ex (by omega)) (ab_ex (by omega)) (ab_rg (by omega) (by omega)) (ab_rg (by omega) (by omega)) (ab_rg (by omega) (by omega))
    by_cases z2_7 : xs 2 ≤ 6
    · skip
      by_cases z3_0 : xs 3 ≤ -1
      · skip
        exact leaf2 nt1_s ck_23_2 hf 24 rfl (ab_rg (by omega) (by omega)) (ab_ex (by omega)) (ab_ex (by omega)) (ab_rg (by omega) (by omega)) (ab_rg (by omega) (by omega)) (ab_rg (by omega) (by omega))
      by_cases z3_1 : xs 3 ≤ 0
      · skip
        exact leaf2 nt1_s ck_23_2 hf 25 rfl (ab_rg (by omega) (by omega)) (ab_ex (by omega)) (ab_ex (by omega)) (ab_ex (by omega)) (ab_rg (by omega) (by omega)) (ab_rg (by omega) (by omega))
      exact leaf2 nt1_s ck_23_2 hf 26 rfl (ab_rg (by omega) (by omega)) (ab_ex (by omega)) (ab_ex (by omega)) (ab_rg (by omega) (by omega)) (ab_rg (by omega) (by omega)) (ab_rg (by omega) (by omega))
    by_cases z2_8 : xs 2 ≤ 7
    · skip
      by_cases z3_0 : xs 3 ≤ -1
      · skip
        exact leaf2 nt1_s ck_23_2 hf 27 rfl (ab_rg (by omega) (by omega)) (ab_ex (by omega)) (ab_ex (by omega)) (ab_rg (by omega) (by omega)) (ab_rg (by omega) (by omega)) (ab_rg (by omega) (by omega))
      by_cases z3_1 : xs 3 ≤ 0
      · skip
        exact leaf2 nt1_s ck_23_2 hf 28 rfl (ab_rg (by omega) (by omega)) (ab_ex (by omega)) (ab_ex (by omega)) (ab_ex (by omega)) (ab_rg (by omega) (by omega)) (ab_rg (by omega) (by omega))
      exact leaf2 nt1_s ck_23_2 hf 29 rfl (ab_rg (by omega) (by omega)) (ab_ex (by omega)) (ab_ex (by omega)) (ab_rg (by omega) (by omega)) (ab_rg (by omega) (by omega)) (ab_rg (by omega) (by omega))
    by_cases z2_9 : xs 2 ≤ 8
    · skip
      by_cases z3_0 : xs 3 ≤ -1
      · skip
        exact leaf2 nt1_s ck_23_3 hf 0 rfl (ab_rg (by omega) (by omega)) (ab_ex (by omega)) (ab_ex (by omega)) (ab_rg (by omega) (by omega)) (ab_rg (by omega) (by omega)) (ab_rg (by omega) (by omega))
      by_cases z3_1 : xs 3 ≤ 0
      · skip
        exact leaf2 nt1_s ck_23_3 hf 1 rfl (ab_rg (by omega) (by omega)) (ab_ex (by omega)) (ab_ex (by omega)) (ab_ex (by omega)) (ab_rg (by omega) (by omega)) (ab_rg (by omega) (by omega))
      exact leaf2 nt1_s ck_23_3 hf 2 rfl (ab_rg (by omega) (by omega)) (ab_ex (by omega)) (ab_ex (by omega)) (ab_rg (by omega) (by omega)) (ab_rg (by omega) (by omega)) (ab_rg (by omega) (by omega))
    by_cases z2_10 : xs 2 ≤ 9
    · skip
      by_cases z3_0 : xs 3 ≤ -1
      · skip
        exact leaf2 nt1_s ck_23_3 hf 3 rfl (ab_rg (by omega) (by omega)) (ab_ex (by omega)) (ab_ex (by omega)) (ab_rg (by omega) (by omega)) (ab_rg (by omega) (by omega)) (ab_rg (by omega) (by omega))
      by_cases z3_1 : xs 3 ≤ 0
      · skip
        exact leaf2 nt1_s ck_23_3 hf 4 rfl (ab_rg (by omega) (by omega)) (ab_ex (by omega)) (ab_ex (by omega)) (ab_ex (by omega)) (ab_rg (by omega) (by omega)) (ab_rg (by omega) (by omega))
      exact leaf2 nt1_s ck_23_3 hf 5 rfl (ab_rg (by omega) (by omega)) (ab_ex (by omega)) (ab_ex (by omega)) (ab_rg (by omega) (by omega)) (ab_rg (by omega) (by omega)) (ab_rg (by omega) (by omega))
    exact leaf2 nt1_s ck_23_3 hf 6 rfl (ab_rg (by omega) (by omega)) (ab_ex (by omega)) (ab_rg (by omega) (by omega)) (ab_rg (by omega) (by omega)) (ab_rg (by omega) (by omega)) (ab_rg (by omega) (by omega))
  by_cases z1_4 : xs 1 ≤ 4
  · skip
    by_cases z2_0 : xs 2 ≤ -1
    · skip
      exact leaf2 nt1_s ck_23_3 hf 7 rfl (ab_rg (by omega) (by omega)) (ab_ex (by omega)) (ab_rg (by omega) (by omega)) (ab_rg (by omega) (by omega)) (ab_rg (by omega) (by omega)) (ab_rg (by omega) (by omega))
    by_cases z2_1 : xs 2 ≤ 0
    · skip
      by_cases z3_0 : xs 3 ≤ -1
      · skip
        exact leaf2 nt1_s ck_23_3 hf 8 rfl (ab_rg (by omega) (by omega)) (ab_ex (by omega)) (ab_ex (by omega)) (ab_rg (by omega) (by omega)) (ab_rg (by omega) (by omega)) (ab_rg (by omega) (by omega))
      by_cases z3_1 : xs 3 ≤ 0
      · skip
        exact leaf2 nt1_s ck_23_3 hf 9 rfl (ab_rg (by omega) (by omega)) (ab_ex (by omega)) (ab_ex (by omega)) (ab_ex (by omega)) (ab_rg (by omega) (by omega)) (ab_rg (by omega) (by omega))
      exact leaf2 nt1_s ck_23_3 hf 10 rfl (ab_rg (by omega) (by omega)) (ab_ex (by omega)) (ab_ex (by omega)) (ab_rg (by omega) (by omega)) (ab_rg (by omega) (by omega)) (ab_rg (by omega) (by omega))
    by_cases z2_2 : xs 2 ≤ 1
    · skip
      by_cases z3_0 : xs 3 ≤ -1
      · skip
        exact leaf2 nt1_s ck_23_3 hf 11 rfl (ab_rg (by omega) (by omega)) (ab_ex (by omega)) (ab_ex (by omega)) (ab_rg (by omega) (by omega)) (ab_rg (by omega) (by omega)) (ab_rg (by omega) (by omega))
      by_cases z3_1 : xs 3 ≤ 0
      · skip
        exact leaf2 nt1_s ck_23_3 hf 12 rfl (ab_rg (by omega) (by omega)) (ab_ex (by omega)) (ab_ex (by omega)) (ab_ex (by omega)) (ab_rg (by omega) (by omega)) (ab_rg (by omega) (by omega))
      exact leaf2 nt1_s ck_23_3 hf 13 rfl (ab_rg (by omega) (by omega)) (ab_ex (by omega)) (ab_ex (by omega)) (ab_rg (by omega) (by omega)) (ab_rg (by omega) (by omega)) (ab_rg (by omega) (by omega))
    by_cases z2_3 : xs 2 ≤ 2
    · skip
      by_cases z3_0 : xs 3 ≤ -1
      · skip
        exact leaf2 nt1_s ck_23_3 hf 14 rfl (ab_rg (by omega) (by omega)) (ab_ex (by omega)) (ab_ex (by omega)) (ab_rg (by omega) (by omega)) (ab_rg (by omega) (by omega)) (ab_rg (by omega) (by omega))
      by_cases z3_1 : xs 3 ≤ 0
      · skip
        exact leaf2 nt1_s ck_23_3 hf 15 rfl (ab_rg (by omega) (by omega)) (ab_ex (by omega)) (ab_ex (by omega)) (ab_ex (by omega)) (ab_rg (by omega) (by omega)) (ab_rg (by omega) (by omega))
      exact leaf2 nt1_s ck_23_3 hf 16 rfl (ab_rg (by omega) (by omega)) (ab_ex (by omega)) (ab_ex (by omega)) (ab_rg (by omega) (by omega)) (ab_rg (by omega) (by omega)) (ab_rg (by omega) (by omega))
    by_cases z2_4 : xs 2 ≤ 3
    · skip
      by_cases z3_0 : xs 3 ≤ -1
      · skip
        exact leaf2 nt1_s ck_23_3 hf 17 rfl (ab_rg (by omega) (by omega)) (ab_ex (by omega)) (ab_ex (by omega)) (ab_rg (by omega) (by omega)) (ab_rg (by omega) (by omega)) (ab_rg (by omega) (by omega))
      by_cases z3_1 : xs 3 ≤ 0
      · skip
        exact leaf2 nt1_s ck_23_3 hf 18 rfl (ab_rg (by omega) (by omega)) (ab_ex (by omega)) (ab_ex (by omega)) (ab_ex (by omega)) (ab_rg (by omega) (by omega)) (ab_rg (by omega) (by omega))
      exact leaf2 nt1_s ck_23_3 hf 19 rfl (ab_rg (by omega) (by omega)) (ab_ex (by omega)) (ab_ex (by omega)) (ab_rg (by omega) (by omega)) (ab_rg (by omega) (by omega)) (ab_rg (by omega) (by omega))
    by_cases z2_5 : xs 2 ≤ 4
    · skip
      by_cases z3_0 : xs 3 ≤ -1
      · skip
        exact leaf2 nt1_s ck_23_3 hf 20 rfl (ab_rg (by omega) (by omega)) (ab_ex (by omega)) (ab_ex (by omega)) (ab_rg (by omega) (by omega)) (ab_rg (by omega) (by omega)) (ab_rg (by omega) (by omega))
      by_cases z3_1 : xs 3 ≤ 0
      · skip
        exact leaf2 nt1_s ck_23_3 hf 21 rfl (ab_rg (by omega) (by omega)) (ab_ex (by omega)) (ab_ex (by omega)) (ab_ex (by omega)) (ab_rg (by omega) (by omega)) (ab_rg (by omega) (by omega))
      exact leaf2 nt1_s ck_23_3 hf 22 rfl (ab_rg (by omega) (by omega)) (ab_ex (by omega)) (ab_ex (by omega)) (ab_rg (by omega) (by omega)) (ab_rg (by omega) (by omega)) (ab_rg (by omega) (by omega))
    by_cases z2_6 : xs 2 ≤ 5
    · skip
      by_cases z3_0 : xs 3 ≤ -1
      · skip
        exact leaf2 nt1_s ck_23_3 hf 23 rfl (ab_rg (by omega) (by omega)) (ab_ex (by omega)) (ab_ex (by omega)) (ab_rg (by omega) (by omega)) (ab_rg (by omega) (by omega)) (ab_rg (by omega) (by omega))
      by_cases z3_1 : xs 3 ≤ 0
      · skip
        exact leaf2 nt1_s ck_23_3 hf 24 rfl (ab_rg (by omega) (by omega)) (ab_ex (by omega)) (ab_ex (by omega)) (ab_ex (by omega)) (ab_rg (by omega) (by omega)) (ab_rg (by omega) (by omega))
      exact leaf2 nt1_s ck_23_3 hf 25 rfl (ab_rg (by omega) (by omega)) (ab_ex (by omega)) (ab_ex (by omega)) (ab_rg (by omega) (by omega)) (ab_rg (by omega) (by omega)) (ab_rg (by omega) (by omega))
    by_cases z2_7 : xs 2 ≤ 6
    · skip
      by_cases z3_0 : xs 3 ≤ -1
      · skip
        exact leaf2 nt1_s ck_23_3 hf 26 rfl (ab_rg (by omega) (by omega)) (ab_ex (by omega)) (ab_ex (by omega)) (ab_rg (by omega) (by omega)) (ab_rg (by omega) (by omega)) (ab_rg (by omega) (by omega))
      by_cases z3_1 : xs 3 ≤ 0
      · skip
        exact leaf2 nt1_s ck_23_3 hf 27 rfl (ab_rg (by omega) (by omega)) (ab_ex (by omega)) (ab_ex (by omega)) (ab_ex (by omega)) (ab_rg (by omega) (by omega)) (ab_rg (by omega) (by omega))
      exact leaf2 nt1_s ck_23_3 hf 28 rfl (ab_rg (by omega) (by omega)) (ab_ex (by omega)) (ab_ex (by omega)) (ab_rg (by omega) (by omega)) (ab_rg (by omega) (by omega)) (ab_rg (by omega) (by omega))
    by_cases z2_8 : xs 2 ≤ 7
    · skip
      by_cases z3_0 : xs 3 ≤ -1
      · skip
        exact leaf2 nt1_s ck_23_3 hf 29 rfl (ab_rg (by omega) (by omega)) (ab_ex (by omega)) (ab_ex (by omega)) (ab_rg (by omega) (by omega)) (ab_rg (by omega) (by omega)) (ab_rg (by omega) (by omega))
      by_cases z3_1 : xs 3 ≤ 0
      · skip
        exact leaf2 nt1_s ck_23_4 hf 0 rfl (ab_rg (by omega) (by omega)) (ab_ex (by omega)) (ab_ex (by omega)) (ab_ex (by omega)) (ab_rg (by omega) (by omega)) (ab_rg (by omega) (by omega))
      exact leaf2 nt1_s ck_23_4 hf 1 rfl (ab_rg (by omega) (by omega)) (ab_ex (by omega)) (ab_ex (by omega)) (ab_rg (by omega) (by omega)) (ab_rg (by omega) (by omega)) (ab_rg (by omega) (by omega))
    by_cases z2_9 : xs 2 ≤ 8
    · skip
      by_cases z3_0 : xs 3 ≤ -1
      · skip
        exact leaf2 nt1_s ck_23_4 hf 2 rfl (ab_rg (by omega) (by omega)) (ab_ex (by omega)) (ab_ex (by omega)) (ab_rg (by omega) (by omega)) (ab_rg (by omega) (by omega)) (ab_rg (by omega) (by omega))
      by_cases z3_1 : xs 3 ≤ 0
      · skip
        exact leaf2 nt1_s ck_23_4 hf 3 rfl (ab_rg (by omega) (by omega)) (ab_ex (by omega)) (ab_ex (by omega)) (ab_ex (by omega)) (ab_rg (by omega) (by omega)) (ab_rg (by omega) (by omega))
      exact leaf2 nt1_s ck_23_4 hf 4 rfl (ab_rg (by omega) (by omega)) (ab_ex (by omega)) (ab_ex (by omega)) (ab_rg (by omega) (by omega)) (ab_rg (by omega) (by omega)) (ab_rg (by omega) (by omega))
    by_cases z2_10 : xs 2 ≤ 9
    · skip
      by_cases z3_0 : xs 3 ≤ -1
      · skip
        exact leaf2 nt1_s ck_23_4 hf 5 rfl (ab_rg (by omega) (by omega)) (ab_ex (by omega)) (ab_ex (by omega)) (ab_rg (by omega) (by omega)) (ab_rg (by omega) (by omega)) (ab_rg (by omega) (by omega))
      by_cases z3_1 : xs 3 ≤ 0
      · skip
        exact leaf2 nt1_s ck_23_4 hf 6 rfl (ab_rg (by omega) (by omega)) (ab_ex (by omega)) (ab_ex (by omega)) (ab_ex (by omega)) (ab_rg (by omega) (by omega)) (ab_rg (by omega) (by omega))
      exact leaf2 nt1_s ck_23_4 hf 7 rfl (ab_rg (by omega) (by omega)) (ab_ex (by omega)) (ab_ex (by omega)) (ab_rg (by omega) (by omega)) (ab_rg (by omega) (by omega)) (ab_rg (by omega) (by omega))
    exact leaf2 nt1_s ck_23_4 hf 8 rfl (ab_rg (by omega) (by omega)) (ab_ex (by omega)) (ab_rg (by omega) (by omega)) (ab_rg (by omega) (by omega)) (ab_rg (by omega) (by omega)) (ab_rg (by omega) (by omega))
  by_cases z1_5 : xs 1 ≤ 5
  · skip
    by_cases z2_0 : xs 2 ≤ -1
    · skip
      exact leaf2 nt1_s ck_23_4 hf 9 rfl (ab_rg (by omega) (by omega)) (ab_ex (by omega)) (ab_rg (by omega) (by omega)) (ab_rg (by omega) (by omega)) (ab_rg (by omega) (by omega)) (ab_rg (by omega) (by omega))
    by_cases z2_1 : xs 2 ≤ 0
    · skip
      by_cases z3_0 : xs 3 ≤ -1
      · skip
        exact leaf2 nt1_s ck_23_4 hf 10 rfl (ab_rg (by omega) (by omega)) (ab_ex (by omega)) (ab_ex (by omega)) (ab_rg (by omega) (by omega)) (ab_rg (by omega) (by omega)) (ab_rg (by omega) (by omega))
      by_cases z3_1 : xs 3 ≤ 0
      · skip
        exact leaf2 nt1_s ck_23_4 hf 11 rfl (ab_rg (by omega) (by omega)) (ab_ex (by omega)) (ab_ex (by omega)) (ab_ex (by omega)) (ab_rg (by omega) (by omega)) (ab_rg (by omega) (by omega))
      exact leaf2 nt1_s ck_23_4 hf 12 rfl (ab_rg (by omega) (by omega)) (ab_ex (by omega)) (ab_ex (by omega)) (ab_rg (by omega) (by omega)) (ab_rg (by omega) (by omega)) (ab_rg (by omega) (by omega))
    by_cases z2_2 : xs 2 ≤ 1
    · skip
      by_cases z3_0 : xs 3 ≤ -1
      · skip
        exact leaf2 nt1_s ck_23_4 hf 13 rfl (ab_rg (by omega) (by omega)) (ab_ex (by omega)) (ab_ex (by omega)) (ab_rg (by omega) (by omega)) (ab_rg (by omega) (by omega)) (ab_rg (by omega) (by omega))
      by_cases z3_1 : xs 3 ≤ 0
      · skip
        exact leaf2 nt1_s ck_23_4 hf 14 rfl (ab_rg (by omega) (by omega)) (ab_ex (by omega)) (ab_ex (by omega)) (ab_ex (by omega)) (ab_rg (by omega) (by omega)) (ab_rg (by omega) (by omega))
      exact leaf2 nt1_s ck_23_4 hf 15 rfl (ab_rg (by omega) (by omega)) (ab_ex (by omega)) (ab_ex (by omega)) (ab_rg (by omega) (by omega)) (ab_rg (by omega) (by omega)) (ab_rg (by omega) (by omega))
    by_cases z2_3 : xs 2 ≤ 2
    · skip
      by_cases z3_0 : xs 3 ≤ -1
      · skip
        exact leaf2 nt1_s ck_23_4 hf 16 rfl (ab_rg (by omega) (by omega)) (ab_ex (by omega)) (ab_ex (by omega)) (ab_rg (by omega) (by omega)) (ab_rg (by omega) (by omega)) (ab_rg (by omega) (by omega))
      by_cases z3_1 : xs 3 ≤ 0
      · skip
        exact leaf2 nt1_s ck_23_4 hf 17 rfl (ab_rg (by omega) (by omega)) (ab_ex (by omega)) (ab_ex (by omega)) (ab_ex (by omega)) (ab_rg (by omega) (by omega)) (ab_rg (by omega) (by omega))
      exact leaf2 nt1_s ck_23_4 hf 18 rfl (ab_rg (by omega) (by omega)) (ab_ex (by omega)) (ab_ex (by omega)) (ab_rg (by omega) (by omega)) (ab_rg (by omega) (by omega)) (ab_rg (by omega) (by omega))
    by_cases z2_4 : xs 2 ≤ 3
    · skip
      by_cases z3_0 : xs 3 ≤ -1
      · skip
        exact leaf2 nt1_s ck_23_4 hf 19 rfl (ab_rg (by omega) (by omega)) (ab_ex (by omega)) (ab_ex (by omega)) (ab_rg (by omega) (by omega)) (ab_rg (by omega) (by omega)) (ab_rg (by omega) (by omega))
      by_cases z3_1 : xs 3 ≤ 0
      · skip
        exact leaf2 nt1_s ck_23_4 hf 20 rfl (ab_rg (by omega) (by omega)) (ab_ex (by omega)) (ab_ex (by omega)) (ab_ex (by omega)) (ab_rg (by omega) (by omega)) (ab_rg (by omega) (by omega))
      exact leaf2 nt1_s ck_23_4 hf 21 rfl (ab_rg (by omega) (by omega)) (ab_ex (by omega)) (ab_ex (by omega)) (ab_rg (by omega) (by omega)) (ab_rg (by omega) (by omega)) (ab_rg (by omega) (by omega))
    by_cases z2_5 : xs 2 ≤ 4
    · skip
      by_cases z3_0 : xs 3 ≤ -1
      · skip
        exact leaf2 nt1_s ck_23_4 hf 22 rfl (ab_rg (by omega) (by omega)) (ab_ex (by omega)) (ab_ex (by omega)) (ab_rg (by omega) (by omega)) (ab_rg (by omega) (by omega)) (ab_rg (by omega) (by omega))
      by_cases z3_1 : xs 3 ≤ 0
      · skip
        exact leaf2 nt1_s ck_23_4 hf 23 rfl (ab_rg (by omega) (by omega)) (ab_ex (by omega)) (ab_ex (by omega)) (ab_ex (by omega)) (ab_rg (by omega) (by omega)) (ab_rg (by omega) (by omega))
      exact leaf2 nt1_s ck_23_4 hf 24 rfl (ab_rg (by omega) (by omega)) (ab_ex (by omega)) (ab_ex (by omega)) (ab_rg (by omega) (by omega)) (ab_rg (by omega) (by omega)) (ab_rg (by omega) (by omega))
    by_cases z2_6 : xs 2 ≤ 5
    · skip
      by_cases z3_0 : xs 3 ≤ -1
      · skip
        exact leaf2 nt1_s ck_23_4 hf 25 rfl (ab_rg (by omega) (by omega)) (ab_ex (by omega)) (ab_ex (by omega)) (ab_rg (by omega) (by omega)) (ab_rg (by omega) (by omega)) (ab_rg (by omega) (by omega))
      by_cases z3_1 : xs 3 ≤ 0
      · skip
        exact leaf2 nt1_s ck_23_4 hf 26 rfl (ab_rg (by omega) (by omega)) (ab_ex (by omega)) (ab_ex (by omega)) (ab_ex (by omega)) (ab_rg (by omega) (by omega)) (ab_rg (by omega) (by omega))
      exact leaf2 nt1_s ck_23_4 hf 27 rfl (ab_rg (by omega) (by omega)) (ab_ex (by omega)) (ab_ex (by omega)) (ab_rg (by omega) (by omega)) (ab_rg (by omega) (by omega)) (ab_rg (by omega) (by omega))
    by_cases z2_7 : xs 2 ≤ 6
    · skip
      by_cases z3_0 : xs 3 ≤ -1
      · skip
        exact leaf2 nt1_s ck_23_4 hf 28 rfl (ab_rg (by omega) (by omega)) (ab_ex (by omega)) (ab_ex (by omega)) (ab_rg (by omega) (by omega)) (ab_rg (by omega) (by omega)) (ab_rg (by omega) (by omega))
      by_cases z3_1 : xs 3 ≤ 0
      · skip
        exact leaf2 nt1_s ck_23_4 hf 29 rfl (ab_rg (by omega) (by omega)) (ab_ex (by omega)) (ab_ex (by omega)) (ab_ex (by omega)) (ab_rg (by omega) (by omega)) (ab_rg (by omega) (by omega))
      exact leaf2 nt1_s ck_23_5 hf 0 rfl (ab_rg (by omega) (by omega)) (ab_ex (by omega)) (ab_ex (by omega)) (ab_rg (by omega) (by omega)) (ab_rg (by omega) (by omega)) (ab_rg (by omega) (by omega))
    by_cases z2_8 : xs 2 ≤ 7
    · skip
      by_cases z3_0 : xs 3 ≤ -1
      · skip
        exact leaf2 nt1_s ck_23_5 hf 1 rfl (ab_rg (by omega) (by omega)) (ab_ex (by omega)) (ab_ex (by omega)) (ab_rg (by omega) (by omega)) (ab_rg (by omega) (by omega)) (ab_rg (by omega) (by omega))
      by_cases z3_1 : xs 3 ≤ 0
      · skip
        exact leaf2 nt1_s ck_23_5 hf 2 rfl (ab_rg (by omega) (by omega)) (ab_ex (by omega)) (ab_ex (by omega)) (ab_ex (by omega)) (ab_rg (by omega) (by omega)) (ab_rg (by omega) (by omega))
      exact leaf2 nt1_s ck_23_5 hf 3 rfl (ab_rg (by omega) (by omega)) (ab_ex (by omega)) (ab_ex (by omega)) (ab_rg (by omega) (by omega)) (ab_rg (by omega) (by omega)) (ab_rg (by omega) (by omega))
    by_cases z2_9 : xs 2 ≤ 8
    · skip
      by_cases z3_0 : xs 3 ≤ -1
      · skip
        exact leaf2 nt1_s ck_23_5 hf 4 rfl (ab_rg (by omega) (by omega)) (ab_ex (by omega)) (ab_ex (by omega)) (ab_rg (by omega) (by omega)) (ab_rg (by omega) (by omega)) (ab_rg (by omega) (by omega))
      by_cases z3_1 : xs 3 ≤ 0
      · skip
        exact leaf2 nt1_s ck_23_5 hf 5 rfl (ab_rg (by omega) (by omega)) (ab_ex (by omega)) (ab_ex (by omega)) (ab_ex (by omega)) (ab_rg (by omega) (by omega)) (ab_rg (by omega) (by omega))
      exact leaf2 nt1_s ck_23_5 hf 6 rfl (ab_rg (by omega) (by omega)) (ab_ex (by omega)) (ab_ex (by omega)) (ab_rg (by omega) (by omega)) (ab_rg (by omega) (by omega)) (ab_rg (by omega) (by omega))
    by_cases z2_10 : xs 2 ≤ 9
    · skip
      by_cases z3_0 : xs 3 ≤ -1
      · skip
        exact leaf2 nt1_s ck_23_5 hf 7 rfl (ab_rg (by omega) (by omega)) (ab_ex (by omega)) (ab_ex (by omega)) (ab_rg (by omega) (by omega)) (ab_rg (by omega) (by omega)) (ab_rg (by omega) (by omega))
      by_cases z3_1 : xs 3 ≤ 0
      · skip
        exact leaf2 nt1_s ck_23_5 hf 8 rfl (ab_rg (by omega) (by omega)) (ab_ex (by omega)) (ab_ex (by omega)) (ab_ex (by omega)) (ab_rg (by omega) (by omega)) (ab_rg (by omega) (by omega))
      exact leaf2 nt1_s ck_23_5 hf 9 rfl (ab_rg (by omega) (by omega)) (ab_ex (by omega)) (ab_ex (by omega)) (ab_rg (by omega) (by omega)) (ab_rg (by omega) (by omega)) (ab_rg (by omega) (by omega))
    exact leaf2 nt1_s ck_23_5 hf 10 rfl (ab_rg (by omega) (by omega)) (ab_ex (by omega)) (ab_rg (by omega) (by omega)) (ab_rg (by omega) (by omega)) (ab_rg (by omega) (by omega)) (ab_rg (by omega) (by omega))
  by_cases z1_6 : xs 1 ≤ 6
  · skip
    by_cases z2_0 : xs 2 ≤ -1
    · skip
      exact leaf2 nt1_s ck_23_5 hf 11 rfl (ab_rg (by omega) (by omega)) (ab_ex (by omega)) (ab_rg (by omega) (by omega)) (ab_rg (by omega) (by omega)) (ab_rg (by omega) (by omega)) (ab_rg (by omega) (by omega))
    by_cases z2_1 : xs 2 ≤ 0
    · skip
      by_cases z3_0 : xs 3 ≤ -1
      · skip
        exact leaf2 nt1_s ck_23_5 hf 12 rfl (ab_rg (by omega) (by omega)) (ab_ex (by omega)) (ab_ex (by omega)) (ab_rg (by omega) (by omega)) (ab_rg (by omega) (by omega)) (ab_rg (by omega) (by omega))
      by_cases z3_1 : xs 3 ≤ 0
      · skip
        exact leaf2 nt1_s ck_23_5 hf 13 rfl (ab_rg (by omega) (by omega)) (ab_ex (by omega)) (ab_ex (by omega)) (ab_ex (by omega)) (ab_rg (by omega) (by omega)) (ab_rg (by omega) (by omega))
      exact leaf2 nt1_s ck_23_5 hf 14 rfl (ab_rg (by omega) (by omega)) (ab_ex (by omega)) (ab_ex (by omega)) (ab_rg (by omega) (by omega)) (ab_rg (by omega) (by omega)) (ab_rg (by omega) (by omega))
    by_cases z2_2 : xs 2 ≤ 1
    · skip
      by_cases z3_0 : xs 3 ≤ -1
      · skip
        exact leaf2 nt1_s ck_23_5 hf 15 rfl (ab_rg (by omega) (by omega)) (ab_ex (by omega)) (ab_ex (by omega)) (ab_rg (by omega) (by omega)) (ab_rg (by omega) (by omega)) (ab_rg (by omega) (by omega))
      by_cases z3_1 : xs 3 ≤ 0
      · skip
        exact leaf2 nt1_s ck_23_5 hf 16 rfl (ab_rg (by omega) (by omega)) (ab_ex (by omega)) (ab_ex (by omega)) (ab_ex (by omega)) (ab_rg (by omega) (by omega)) (ab_rg (by omega) (by omega))
      exact leaf2 nt1_s ck_23_5 hf 17 rfl (ab_rg (by omega) (by omega)) (ab_ex (by omega)) (ab_ex (by omega)) (ab_rg (by omega) (by omega)) (ab_rg (by omega) (by omega)) (ab_rg (by omega) (by omega))
    by_cases z2_3 : xs 2 ≤ 2
    · skip
      by_cases z3_0 : xs 3 ≤ -1
      · skip
        exact leaf2 nt1_s ck_23_5 hf 18 rfl (ab_rg (by omega) (by omega)) (ab_ex (by omega)) (ab_ex (by omega)) (ab_rg (by omega) (by omega)) (ab_rg (by omega) (by omega)) (ab_rg (by omega) (by omega))
      by_cases z3_1 : xs 3 ≤ 0
      · skip
        exact leaf2 nt1_s ck_23_5 hf 19 rfl (ab_rg (by omega) (by omega)) (ab_ex (by omega)) (ab_ex (by omega)) (ab_ex (by omega)) (ab_rg (by omega) (by omega)) (ab_rg (by omega) (by omega))
      exact leaf2 nt1_s ck_23_5 hf 20 rfl (ab_rg (by omega) (by omega)) (ab_ex (by omega)) (ab_ex (by omega)) (ab_rg (by omega) (by omega)) (ab_rg (by omega) (by omega)) (ab_rg (by omega) (by omega))
    by_cases z2_4 : xs 2 ≤ 3
    · skip
      by_cases z3_0 : xs 3 ≤ -1
      · skip
        exact leaf2 nt1_s ck_23_5 hf 21 rfl (ab_rg (by omega) (by omega)) (ab_ex (by omega)) (ab_ex (by omega)) (ab_rg (by omega) (by omega)) (ab_rg (by omega) (by omega)) (ab_rg (by omega) (by omega))
      by_cases z3_1 : xs 3 ≤ 0
      · skip
        exact leaf2 nt1_s ck_23_5 hf 22 rfl (ab_rg (by omega) (by omega)) (ab_ex (by omega)) (ab_ex (by omega)) (ab_ex (by omega)) (ab_rg (by omega) (by omega)) (ab_rg (by omega) (by omega))
      exact leaf2 nt1_s ck_23_5 hf 23 rfl (ab_rg (by omega) (by omega)) (ab_ex (by omega)) (ab_ex (by omega)) (ab_rg (by omega) (by omega)) (ab_rg (by omega) (by omega)) (ab_rg (by omega) (by omega))
    by_cases z2_5 : xs 2 ≤ 4
    · skip
      by_cases z3_0 : xs 3 ≤ -1
      · skip
        exact leaf2 nt1_s ck_23_5 hf 24 rfl (ab_rg (by omega) (by omega)) (ab_ex (by omega)) (ab_ex (by omega)) (ab_rg (by omega) (by omega)) (ab_rg (by omega) (by omega)) (ab_rg (by omega) (by omega))
      by_cases z3_1 : xs 3 ≤ 0
      · skip
        exact leaf2 nt1_s ck_23_5 hf 25 rfl (ab_rg (by omega) (by omega)) (ab_ex (by omega)) (ab_ex (by omega)) (ab_ex (by omega)) (ab_rg (by omega) (by omega)) (ab_rg (by omega) (by omega))
      exact leaf2 nt1_s ck_23_5 hf 26 rfl (ab_rg (by omega) (by omega)) (ab_ex (by omega)) (ab_ex (by omega)) (ab_rg (by omega) (by omega)) (ab_rg (by omega) (by omega)) (ab_rg (by omega) (by omega))
    by_cases z2_6 : xs 2 ≤ 5
    · skip
      by_cases z3_0 : xs 3 ≤ -1
      · skip
        exact leaf2 nt1_s ck_23_5 hf 27 rfl (ab_rg (by omega) (by omega)) (ab_ex (by omega)) (ab_ex (by omega)) (ab_rg (by omega) (by omega)) (ab_rg (by omega) (by omega)) (ab_rg (by omega) (by omega))
      by_cases z3_1 : xs 3 ≤ 0
      · skip
        exact leaf2 nt1_s ck_23_5 hf 28 rfl (ab_rg (by omega) (by omega)) (ab_ex (by omega)) (ab_ex (by omega)) (ab_ex (by omega)) (ab_rg (by omega) (by omega)) (ab_rg (by omega) (by omega))
      exact leaf2 nt1_s ck_23_5 hf 29 rfl (ab_rg (by omega) (by omega)) (ab_ex (by omega)) (ab_ex (by omega)) (ab_rg (by omega) (by omega)) (ab_rg (by omega) (by omega)) (ab_rg (by omega) (by omega))
    by_cases z2_7 : xs 2 ≤ 6
    · skip
      by_cases z3_0 : xs 3 ≤ -1
      · skip
        exact leaf2 nt1_s ck_23_6 hf 0 rfl (ab_rg (by omega) (by omega)) (ab_ex (by omega)) (ab_ex (by omega)) (ab_rg (by omega) (by omega)) (ab_rg (by omega) (by omega)) (ab_rg (by omega) (by omega))
      by_cases z3_1 : xs 3 ≤ 0
      · skip
        exact leaf2 nt1_s ck_23_6 hf 1 rfl (ab_rg (by omega) (by omega)) (ab_ex (by omega)) (ab_ex (by omega)) (ab_ex (by omega)) (ab_rg (by omega) (by omega)) (ab_rg (by omega) (by omega))
      exact leaf2 nt1_s ck_23_6 hf 2 rfl (ab_rg (by omega) (by omega)) (ab_ex (by omega)) (ab_ex (by omega)) (ab_rg (by omega) (by omega)) (ab_rg (by omega) (by omega)) (ab_rg (by omega) (by omega))
    by_cases z2_8 : xs 2 ≤ 7
    · skip
      by_cases z3_0 : xs 3 ≤ -1
      · skip
        exact leaf2 nt1_s ck_23_6 hf 3 rfl (ab_rg (by omega) (by omega)) (ab_ex (by omega)) (ab_ex (by omega)) (ab_rg (by omega) (by omega)) (ab_rg (by omega) (by omega)) (ab_rg (by omega) (by omega))
      by_cases z3_1 : xs 3 ≤ 0
      · skip
        exact leaf2 nt1_s ck_23_6 hf 4 rfl (ab_rg (by omega) (by omega)) (ab_ex (by omega)) (ab_ex (by omega)) (ab_ex (by omega)) (ab_rg (by omega) (by omega)) (ab_rg (by omega) (by omega))
      exact leaf2 nt1_s ck_23_6 hf 5 rfl (ab_rg (by omega) (by omega)) (ab_ex (by omega)) (ab_ex (by omega)) (ab_rg (by omega) (by omega)) (ab_rg (by omega) (by omega)) (ab_rg (by omega) (by omega))
    by_cases z2_9 : xs 2 ≤ 8
    · skip
      by_cases z3_0 : xs 3 ≤ -1
      · skip
        exact leaf2 nt1_s ck_23_6 hf 6 rfl (ab_rg (by omega) (by omega)) (ab_ex (by omega)) (ab_ex (by omega)) (ab_rg (by omega) (by omega)) (ab_rg (by omega) (by omega)) (ab_rg (by omega) (by omega))
      by_cases z3_1 : xs 3 ≤ 0
      · skip
        exact leaf2 nt1_s ck_23_6 hf 7 rfl (ab_rg (by omega) (by omega)) (ab_ex (by omega)) (ab_ex (by omega)) (ab_ex (by omega)) (ab_rg (by omega) (by omega)) (ab_rg (by omega) (by omega))
      exact leaf2 nt1_s ck_23_6 hf 8 rfl (ab_rg (by omega) (by omega)) (ab_ex (by omega)) (ab_ex (by omega)) (ab_rg (by omega) (by omega)) (ab_rg (by omega) (by omega)) (ab_rg (by omega) (by omega))
    by_cases z2_10 : xs 2 ≤ 9
    · skip
      by_cases z3_0 : xs 3 ≤ -1
      · skip
        exact leaf2 nt1_s ck_23_6 hf 9 rfl (ab_rg (by omega) (by omega)) (ab_ex (by omega)) (ab_ex (by omega)) (ab_rg (by omega) (by omega)) (ab_rg (by omega) (by omega)) (ab_rg (by omega) (by omega))
      by_cases z3_1 : xs 3 ≤ 0
      · skip
        exact leaf2 nt1_s ck_23_6 hf 10 rfl (ab_rg (by omega) (by omega)) (ab_ex (by omega)) (ab_ex (by omega)) (ab_ex (by omega)) (ab_rg (by omega) (by omega)) (ab_rg (by omega) (by omega))
      exact leaf2 nt1_s ck_23_6 hf 11 rfl (ab_rg (by omega) (by omega)) (ab_ex (by omega)) (ab_ex (by omega)) (ab_rg (by omega) (by omega)) (ab_rg (by omega) (by omega)) (ab_rg (by omega) (by omega))
    exact leaf2 nt1_s ck_23_6 hf 12 rfl (ab_rg (by omega) (by omega)) (ab_ex (by omega)) (ab_rg (by omega) (by omega)) (ab_rg (by omega) (by omega)) (ab_rg (by omega) (by omega)) (ab_rg (by omega) (by omega))
  by_cases z1_7 : xs 1 ≤ 7
  · skip
    by_cases z2_0 : xs 2 ≤ -1
    · skip
      exact leaf2 nt1_s ck_23_6 hf 13 rfl (ab_rg (by omega) (by omega)) (ab_ex (by omega)) (ab_rg (by omega) (by omega)) (ab_rg (by omega) (by omega)) (ab_rg (by omega) (by omega)) (ab_rg (by omega) (by omega))
    by_cases z2_1 : xs 2 ≤ 0
    · skip
      by_cases z3_0 : xs 3 ≤ -1
      · skip
        exact leaf2 nt1_s ck_23_6 hf 14 rfl (ab_rg (by omega) (by omega)) (ab_ex (by omega)) (ab_ex (by omega)) (ab_rg (by omega) (by omega)) (ab_rg (by omega) (by omega)) (ab_rg (by omega) (by omega))
      by_cases z3_1 : xs 3 ≤ 0
      · skip
        exact leaf2 nt1_s ck_23_6 hf 15 rfl (ab_rg (by omega) (by omega)) (ab_ex (by omega)) (ab_ex (by omega)) (ab_ex (by omega)) (ab_rg (by omega) (by omega)) (ab_rg (by omega) (by omega))
      exact leaf2 nt1_s ck_23_6 hf 16 rfl (ab_rg (by omega) (by omega)) (ab_ex (by omega)) (ab_ex (by omega)) (ab_rg (by omega) (by omega)) (ab_rg (by omega) (by omega)) (ab_rg (by omega) (by omega))
    by_cases z2_2 : xs 2 ≤ 1
    · skip
      by_cases z3_0 : xs 3 ≤ -1
      · skip
        exact leaf2 nt1_s ck_23_6 hf 17 rfl (ab_rg (by omega) (by omega)) (ab_ex (by omega)) (ab_ex (by omega)) (ab_rg (by omega) (by omega)) (ab_rg (by omega) (by omega)) (ab_rg (by omega) (by omega))
      by_cases z3_1 : xs 3 ≤ 0
      · skip
        exact leaf2 nt1_s ck_23_6 hf 18 rfl (ab_rg (by omega) (by omega)) (ab_ex (by omega)) (ab_ex (by omega)) (ab_ex (by omega)) (ab_rg (by omega) (by omega)) (ab_rg (by omega) (by omega))
      exact leaf2 nt1_s ck_23_6 hf 19 rfl (ab_rg (by omega) (by omega)) (ab_ex (by omega)) (ab_ex (by omega)) (ab_rg (by omega) (by omega)) (ab_rg (by omega) (by omega)) (ab_rg (by omega) (by omega))
    by_cases z2_3 : xs 2 ≤ 2
    · skip
      by_cases z3_0 : xs 3 ≤ -1
      · skip
        exact leaf2 nt1_s ck_23_6 hf 20 rfl (ab_rg (by omega) (by omega)) (ab_ex (by omega)) (ab_ex (by omega)) (ab_rg (by omega) (by omega)) (ab_rg (by omega) (by omega)) (ab_rg (by omega) (by omega))
      by_cases z3_1 : xs 3 ≤ 0
      · skip
        exact leaf2 nt1_s ck_23_6 hf 21 rfl (ab_rg (by omega) (by omega)) (ab_ex (by omega)) (ab_ex (by omega)) (ab_ex (by omega)) (ab_rg (by omega) (by omega)) (ab_rg (by omega) (by omega))
      exact leaf2 nt1_s ck_23_6 hf 22 rfl (ab_rg (by omega) (by omega)) (ab_ex (by omega)) (ab_ex (by omega)) (ab_rg (by omega) (by omega)) (ab_rg (by omega) (by omega)) (ab_rg (by omega) (by omega))
    by_cases z2_4 : xs 2 ≤ 3
    · skip
      by_cases z3_0 : xs 3 ≤ -1
      · skip
        exact leaf2 nt1_s ck_23_6 hf 23 rfl (ab_rg (by omega) (by omega)) (ab_ex (by omega)) (ab_ex (by omega)) (ab_rg (by omega) (by omega)) (ab_rg (by omega) (by omega)) (ab_rg (by omega) (by omega))
      by_cases z3_1 : xs 3 ≤ 0
      · skip
        exact leaf2 nt1_s ck_23_6 hf 24 rfl (ab_rg (by omega) (by omega)) (ab_ex (by omega)) (ab_ex (by omega)) (ab_ex (by omega)) (ab_rg (by omega) (by omega)) (ab_rg (by omega) (by omega))
      exact leaf2 nt1_s ck_23_6 hf 25 rfl (ab_rg (by omega) (by omega)) (ab_ex (by omega)) (ab_ex (by omega)) (ab_rg (by omega) (by omega)) (ab_rg (by omega) (by omega)) (ab_rg (by omega) (by omega))
    by_cases z2_5 : xs 2 ≤ 4
    · skip
      by_cases z3_0 : xs 3 ≤ -1
      · skip
        exact leaf2 nt1_s ck_23_6 hf 26 rfl (ab_rg (by omega) (by omega)) (ab_ex (by omega)) (ab_ex (by omega)) (ab_rg (by omega) (by omega)) (ab_rg (by omega) (by omega)) (ab_rg (by omega) (by omega))
      by_cases z3_1 : xs 3 ≤ 0
      · skip
        exact leaf2 nt1_s ck_23_6 hf 27 rfl (ab_rg (by omega) (by omega)) (ab_ex (by omega)) (ab_ex (by omega)) (ab_ex (by omega)) (ab_rg (by omega) (by omega)) (ab_rg (by omega) (by omega))
      exact leaf2 nt1_s ck_23_6 hf 28 rfl (ab_rg (by omega) (by omega)) (ab_ex (by omega)) (ab_ex (by omega)) (ab_rg (by omega) (by omega)) (ab_rg (by omega) (by omega)) (ab_rg (by omega) (by omega))
    by_cases z2_6 : xs 2 ≤ 5
    · skip
      by_cases z3_0 : xs 3 ≤ -1
      · skip
        exact leaf2 nt1_s ck_23_6 hf 29 rfl (ab_rg (by omega) (by omega)) (ab_ex (by omega)) (ab_ex (by omega)) (ab_rg (by omega) (by omega)) (ab_rg (by omega) (by omega)) (ab_rg (by omega) (by omega))
      by_cases z3_1 : xs 3 ≤ 0
      · skip
        exact leaf2 nt1_s ck_23_7 hf 0 rfl (ab_rg (by omega) (by omega)) (ab_ex (by omega)) (ab_ex (by omega)) (ab_ex (by omega)) (ab_rg (by omega) (by omega)) (ab_rg (by omega) (by omega))
      exact leaf2 nt1_s ck_23_7 hf 1 rfl (ab_rg (by omega) (by omega)) (ab_ex (by omega)) (ab_ex (by omega)) (ab_rg (by omega) (by omega)) (ab_rg (by omega) (by omega)) (ab_rg (by omega) (by omega))
    by_cases z2_7 : xs 2 ≤ 6
    · skip
      by_cases z3_0 : xs 3 ≤ -1
      · skip
        exact leaf2 nt1_s ck_23_7 hf 2 rfl (ab_rg (by omega) (by omega)) (ab_ex (by omega)) (ab_ex (by omega)) (ab_rg (by omega) (by omega)) (ab_rg (by omega) (by omega)) (ab_rg (by omega) (by omega))
      by_cases z3_1 : xs 3 ≤ 0
      · skip
        exact leaf2 nt1_s ck_23_7 hf 3 rfl (ab_rg (by omega) (by omega)) (ab_ex (by omega)) (ab_ex (by omega)) (ab_ex (by omega)) (ab_rg (by omega) (by omega)) (ab_rg (by omega) (by omega))
      exact leaf2 nt1_s ck_23_7 hf 4 rfl (ab_rg (by omega) (by omega)) (ab_ex (by omega)) (ab_ex (by omega)) (ab_rg (by omega) (by omega)) (ab_rg (by omega) (by omega)) (ab_rg (by omega) (by omega))
    by_cases z2_8 : xs 2 ≤ 7
    · skip
      by_cases z3_0 : xs 3 ≤ -1
      · skip
        exact leaf2 nt1_s ck_23_7 hf 5 rfl (ab_rg (by omega) (by omega)) (ab_ex (by omega)) (ab_ex (by omega)) (ab_rg (by omega) (by omega)) (ab_rg (by omega) (by omega)) (ab_rg (by omega) (by omega))
      by_cases z3_1 : xs 3 ≤ 0
      · skip
        exact leaf2 nt1_s ck_23_7 hf 6 rfl (ab_rg (by omega) (by omega)) (ab_ex (by omega)) (ab_ex (by omega)) (ab_ex (by omega)) (ab_rg (by omega) (by omega)) (ab_rg (by omega) (by omega))
      exact leaf2 nt1_s ck_23_7 hf 7 rfl (ab_rg (by omega) (by omega)) (ab_ex (by omega)) (ab_ex (by omega)) (ab_rg (by omega) (by omega)) (ab_rg (by omega) (by omega)) (ab_rg (by omega) (by omega))
    by_cases z2_9 : xs 2 ≤ 8
    · skip
      by_cases z3_0 : xs 3 ≤ -1
      · skip
        exact leaf2 nt1_s ck_23_7 hf 8 rfl (ab_rg (by omega) (by omega)) (ab_ex (by omega)) (ab_ex (by omega)) (ab_rg (by omega) (by omega)) (ab_rg (by omega) (by omega)) (ab_rg (by omega) (by omega))
      by_cases z3_1 : xs 3 ≤ 0
      · skip
        exact leaf2 nt1_s ck_23_7 hf 9 rfl (ab_rg (by omega) (by omega)) (ab_ex (by omega)) (ab_ex (by omega)) (ab_ex (by omega)) (ab_rg (by omega) (by omega)) (ab_rg (by omega) (by omega))
      exact leaf2 nt1_s ck_23_7 hf 10 rfl (ab_rg (by omega) (by omega)) (ab_ex (by omega)) (ab_ex (by omega)) (ab_rg (by omega) (by omega)) (ab_rg (by omega) (by omega)) (ab_rg (by omega) (by omega))
    by_cases z2_10 : xs 2 ≤ 9
    · skip
      by_cases z3_0 : xs 3 ≤ -1
      · skip
        exact leaf2 nt1_s ck_23_7 hf 11 rfl (ab_rg (by omega) (by omega)) (ab_ex (by omega)) (ab_ex (by omega)) (ab_rg (by omega) (by omega)) (ab_rg (by omega) (by omega)) (ab_rg (by omega) (by omega))
      by_cases z3_1 : xs 3 ≤ 0
      · skip
        exact leaf2 nt1_s ck_23_7 hf 12 rfl (ab_rg (by omega) (by omega)) (ab_ex (by omega)) (ab_ex (by omega)) (ab_ex (by omega)) (ab_rg (by omega) (by omega)) (ab_rg (by omega) (by omega))
      exact leaf2 nt1_s ck_23_7 hf 13 rfl (ab_rg (by omega) (by omega)) (ab_ex (by omega)) (ab_ex (by omega)) (ab_rg (by omega) (by omega)) (ab_rg (by omega) (by omega)) (ab_rg (by omega) (by omega))
    exact leaf2 nt1_s ck_23_7 hf 14 rfl (ab_rg (by omega) (by omega)) (ab_ex (by omega)) (ab_rg (by omega) (by omega)) (ab_rg (by omega) (by omega)) (ab_rg (by omega) (by omega)) (ab_rg (by omega) (by omega))
  by_cases z1_8 : xs 1 ≤ 8
  · skip
    by_cases z2_0 : xs 2 ≤ -1
    · skip
      exact leaf2 nt1_s ck_23_7 hf 15 rfl (ab_rg (by omega) (by omega)) (ab_ex (by omega)) (ab_rg (by omega) (by omega)) (ab_rg (by omega) (by omega)) (ab_rg (by omega) (by omega)) (ab_rg (by omega) (by omega))
    by_cases z2_1 : xs 2 ≤ 0
    · skip
      by_cases z3_0 : xs 3 ≤ -1
      · skip
        exact leaf2 nt1_s ck_23_7 hf 16 rfl (ab_rg (by omega) (by omega)) (ab_ex (by omega)) (ab_ex (by omega)) (ab_rg (by omega) (by omega)) (ab_rg (by omega) (by omega)) (ab_rg (by omega) (by omega))
      by_cases z3_1 : xs 3 ≤ 0
      · skip
        exact leaf2 nt1_s ck_23_7 hf 17 rfl (ab_rg (by omega) (by omega)) (ab_ex (by omega)) (ab_ex (by omega)) (ab_ex (by omega)) (ab_rg (by omega) (by omega)) (ab_rg (by omega) (by omega))
      exact leaf2 nt1_s ck_23_7 hf 18 rfl (ab_rg (by omega) (by omega)) (ab_ex (by omega)) (ab_ex (by omega)) (ab_rg (by omega) (by omega)) (ab_rg (by omega) (by omega)) (ab_rg (by omega) (by omega))
    by_cases z2_2 : xs 2 ≤ 1
    · skip
      by_cases z3_0 : xs 3 ≤ -1
      · skip
        exact leaf2 nt1_s ck_23_7 hf 19 rfl (ab_rg (by omega) (by omega)) (ab_ex (by omega)) (ab_ex (by omega)) (ab_rg (by omega) (by omega)) (ab_rg (by omega) (by omega)) (ab_rg (by omega) (by omega))
      by_cases z3_1 : xs 3 ≤ 0
      · skip
        exact leaf2 nt1_s ck_23_7 hf 20 rfl (ab_rg (by omega) (by omega)) (ab_ex (by omega)) (ab_ex (by omega)) (ab_ex (by omega)) (ab_rg (by omega) (by omega)) (ab_rg (by omega) (by omega))
      exact leaf2 nt1_s ck_23_7 hf 21 rfl (ab_rg (by omega) (by omega)) (ab_ex (by omega)) (ab_ex (by omega)) (ab_rg (by omega) (by omega)) (ab_rg (by omega) (by omega)) (ab_rg (by omega) (by omega))
    by_cases z2_3 : xs 2 ≤ 2
    · skip
      by_cases z3_0 : xs 3 ≤ -1
      · skip
        exact leaf2 nt1_s ck_23_7 hf 22 rfl (ab_rg (by omega) (by omega)) (ab_ex (by omega)) (ab_ex (by omega)) (ab_rg (by omega) (by omega)) (ab_rg (by omega) (by omega)) (ab_rg (by omega) (by omega))
      by_cases z3_1 : xs 3 ≤ 0
      · skip
        exact leaf2 nt1_s ck_23_7 hf 23 rfl (ab_rg (by omega) (by omega)) (ab_ex (by omega)) (ab_ex (by omega)) (ab_ex (by omega)) (ab_rg (by omega) (by omega)) (ab_rg (by omega) (by omega))
      exact leaf2 nt1_s ck_23_7 hf 24 rfl (ab_rg (by omega) (by omega)) (ab_ex (by omega)) (ab_ex (by omega)) (ab_rg (by omega) (by omega)) (ab_rg (by omega) (by omega)) (ab_rg (by omega) (by omega))
    by_cases z2_4 : xs 2 ≤ 3
    · skip
      by_cases z3_0 : xs 3 ≤ -1
      · skip
        exact leaf2 nt1_s ck_23_7 hf 25 rfl (ab_rg (by omega) (by omega)) (ab_ex (by omega)) (ab_ex (by omega)) (ab_rg (by omega) (by omega)) (ab_rg (by omega) (by omega)) (ab_rg (by omega) (by omega))
      by_cases z3_1 : xs 3 ≤ 0
      · skip
        exact leaf2 nt1_s ck_23_7 hf 26 rfl (ab_rg (by omega) (by omega)) (ab_ex (by omega)) (ab_ex (by omega)) (ab_ex (by omega)) (ab_rg (by omega) (by omega)) (ab_rg (by omega) (by omega))
      exact leaf2 nt1_s ck_23_7 hf 27 rfl (ab_rg (by omega) (by omega)) (ab_ex (by omega)) (ab_ex (by omega)) (ab_rg (by omega) (by omega)) (ab_rg (by omega) (by omega)) (ab_rg (by omega) (by omega))
    by_cases z2_5 : xs 2 ≤ 4
    · skip
      by_cases z3_0 : xs 3 ≤ -1
      · skip
        exact leaf2 nt1_s ck_23_7 hf 28 rfl (ab_rg (by omega) (by omega)) (ab_ex (by omega)) (ab_ex (by omega)) (ab_rg (by omega) (by omega)) (ab_rg (by omega) (by omega)) (ab_rg (by omega) (by omega))
      by_cases z3_1 : xs 3 ≤ 0
      · skip
        exact leaf2 nt1_s ck_23_7 hf 29 rfl (ab_rg (by omega) (by omega)) (ab_ex (by omega)) (ab_ex (by omega)) (ab_ex (by omega)) (ab_rg (by omega) (by omega)) (ab_rg (by omega) (by omega))
      exact leaf2 nt1_s ck_23_8 hf 0 rfl (ab_rg (by omega) (by omega)) (ab_ex (by omega)) (ab_ex (by omega)) (ab_rg (by omega) (by omega)) (ab_rg (by omega) (by omega)) (ab_rg (by omega) (by omega))
    by_cases z2_6 : xs 2 ≤ 5
    · skip
      by_cases z3_0 : xs 3 ≤ -1
      · skip
        exact leaf2 nt1_s ck_23_8 hf 1 rfl (ab_rg (by omega) (by omega)) (ab_ex (by omega)) (ab_ex (by omega)) (ab_rg (by omega) (by omega)) (ab_rg (by omega) (by omega)) (ab_rg (by omega) (by omega))
      by_cases z3_1 : xs 3 ≤ 0
      · skip
        exact leaf2 nt1_s ck_23_8 hf 2 rfl (ab_rg (by omega) (by omega)) (ab_ex (by omega)) (ab_ex (by omega)) (ab_ex (by omega)) (ab_rg (by omega) (by omega)) (ab_rg (by omega) (by omega))
      exact leaf2 nt1_s ck_23_8 hf 3 rfl (ab_rg (by omega) (by omega)) (ab_ex (by omega)) (ab_ex (by omega)) (ab_rg (by omega) (by omega)) (ab_rg (by omega) (by omega)) (ab_rg (by omega) (by omega))
    by_cases z2_7 : xs 2 ≤ 6
    · skip
      by_cases z3_0 : xs 3 ≤ -1
      · skip
        exact leaf2 nt1_s ck_23_8 hf 4 rfl (ab_rg (by omega) (by omega)) (ab_ex (by omega)) (ab_ex (by omega)) (ab_rg (by omega) (by omega)) (ab_rg (by omega) (by omega)) (ab_rg (by omega) (by omega))
      by_cases z3_1 : xs 3 ≤ 0
      · skip
        exact leaf2 nt1_s ck_23_8 hf 5 rfl (ab_rg (by omega) (by omega)) (ab_ex (by omega)) (ab_ex (by omega)) (ab_ex (by omega)) (ab_rg (by omega) (by omega)) (ab_rg (by omega) (by omega))
      exact leaf2 nt1_s ck_23_8 hf 6 rfl (ab_rg (by omega) (by omega)) (ab_ex (by omega)) (ab_ex (by omega)) (ab_rg (by omega) (by omega)) (ab_rg (by omega) (by omega)) (ab_rg (by omega) (by omega))
    by_cases z2_8 : xs 2 ≤ 7
    · skip
      by_cases z3_0 : xs 3 ≤ -1
      · skip
        exact leaf2 nt1_s ck_23_8 hf 7 rfl (ab_rg (by omega) (by omega)) (ab_ex (by omega)) (ab_ex (by omega)) (ab_rg (by omega) (by omega)) (ab_rg (by omega) (by omega)) (ab_rg (by omega) (by omega))
      by_cases z3_1 : xs 3 ≤ 0
      · skip
        exact leaf2 nt1_s ck_23_8 hf 8 rfl (ab_rg (by omega) (by omega)) (ab_ex (by omega)) (ab_ex (by omega)) (ab_ex (by omega)) (ab_rg (by omega) (by omega)) (ab_rg (by omega) (by omega))
      exact leaf2 nt1_s ck_23_8 hf 9 rfl (ab_rg (by omega) (by omega)) (ab_ex (by omega)) (ab_ex (by omega)) (ab_rg (by omega) (by omega)) (ab_rg (by omega) (by omega)) (ab_rg (by omega) (by omega))
    by_cases z2_9 : xs 2 ≤ 8
    · skip
      by_cases z3_0 : xs 3 ≤ -1
      · skip
        exact leaf2 nt1_s ck_23_8 hf 10 rfl (ab_rg (by omega) (by omega)) (ab_ex (by omega)) (ab_ex (by omega)) (ab_rg (by omega) (by omega)) (ab_rg (by omega) (by omega)) (ab_rg (by omega) (by omega))
      by_cases z3_1 : xs 3 ≤ 0
      · skip
        exact leaf2 nt1_s ck_23_8 hf 11 rfl (ab_rg (by omega) (by omega)) (ab_ex (by omega)) (ab_ex (by omega)) (ab_ex (by omega)) (ab_rg (by omega) (by omega)) (ab_rg (by omega) (by omega))
      exact leaf2 nt1_s ck_23_8 hf 12 rfl (ab_rg (by omega) (by omega)) (ab_ex (by omega)) (ab_ex (by omega)) (ab_rg (by omega) (by omega)) (ab_rg (by omega) (by omega)) (ab_rg (by omega) (by omega))
    by_cases z2_10 : xs 2 ≤ 9
    · skip
      by_cases z3_0 : xs 3 ≤ -1
      · skip
        exact leaf2 nt1_s ck_23_8 hf 13 rfl (ab_rg (by omega) (by omega)) (ab_ex (by omega)) (ab_ex (by omega)) (ab_rg (by omega) (by omega)) (ab_rg (by omega) (by omega)) (ab_rg (by omega) (by omega))
      by_cases z3_1 : xs 3 ≤ 0
      · skip
        exact leaf2 nt1_s ck_23_8 hf 14 rfl (ab_rg (by omega) (by omega)) (ab_ex (by omega)) (ab_ex (by omega)) (ab_ex (by omega)) (ab_rg (by omega) (by omega)) (ab_rg (by omega) (by omega))
      exact leaf2 nt1_s ck_23_8 hf 15 rfl (ab_rg (by omega) (by omega)) (ab_ex (by omega)) (ab_ex (by omega)) (ab_rg (by omega) (by omega)) (ab_rg (by omega) (by omega)) (ab_rg (by omega) (by omega))
    exact leaf2 nt1_s ck_23_8 hf 16 rfl (ab_rg (by omega) (by omega)) (ab_ex (by omega)) (ab_rg (by omega) (by omega)) (ab_rg (by omega) (by omega)) (ab_rg (by omega) (by omega)) (ab_rg (by omega) (by omega))
  by_cases z1_9 : xs 1 ≤ 9
  · skip
    by_cases z2_0 : xs 2 ≤ -1
    · skip
      exact leaf2 nt1_s ck_23_8 hf 17 rfl (ab_rg (by omega) (by omega)) (ab_ex (by omega)) (ab_rg (by omega) (by omega)) (ab_rg (by omega) (by omega)) (ab_rg (by omega) (by omega)) (ab_rg (by omega) (by omega))
    by_cases z2_1 : xs 2 ≤ 0
    · skip
      by_cases z3_0 : xs 3 ≤ -1
      · skip
        exact leaf2 nt1_s ck_23_8 hf 18 rfl (ab_rg (by omega) (by omega)) (ab_ex (by omega)) (ab_ex (by omega)) (ab_rg (by omega) (by omega)) (ab_rg (by omega) (by omega)) (ab_rg (by omega) (by omega))
      by_cases z3_1 : xs 3 ≤ 0
      · skip
        exact leaf2 nt1_s ck_23_8 hf 19 rfl (ab_rg (by omega) (by omega)) (ab_ex (by omega)) (ab_ex (by omega)) (ab_ex (by omega)) (ab_rg (by omega) (by omega)) (ab_rg (by omega) (by omega))
      exact leaf2 nt1_s ck_23_8 hf 20 rfl (ab_rg (by omega) (by omega)) (ab_ex (by omega)) (ab_ex (by omega)) (ab_rg (by omega) (by omega)) (ab_rg (by omega) (by omega)) (ab_rg (by omega) (by omega))
    by_cases z2_2 : xs 2 ≤ 1
    · skip
      by_cases z3_0 : xs 3 ≤ -1
      · skip
        exact leaf2 nt1_s ck_23_8 hf 21 rfl (ab_rg (by omega) (by omega)) (ab_ex (by omega)) (ab_ex (by omega)) (ab_rg (by omega) (by omega)) (ab_rg (by omega) (by omega)) (ab_rg (by omega) (by omega))
      by_cases z3_1 : xs 3 ≤ 0
      · skip
        exact leaf2 nt1_s ck_23_8 hf 22 rfl (ab_rg (by omega) (by omega)) (ab_ex (by omega)) (ab_ex (by omega)) (ab_ex (by omega)) (ab_rg (by omega) (by omega)) (ab_rg (by omega) (by omega))
      exact leaf2 nt1_s ck_23_8 hf 23 rfl (ab_rg (by omega) (by omega)) (ab_ex (by omega)) (ab_ex (by omega)) (ab_rg (by omega) (by omega)) (ab_rg (by omega) (by omega)) (ab_rg (by omega) (by omega))
    by_cases z2_3 : xs 2 ≤ 2
    · skip
      by_cases z3_0 : xs 3 ≤ -1
      · skip
        exact leaf2 nt1_s ck_23_8 hf 24 rfl (ab_rg (by omega) (by omega)) (ab_ex (by omega)) (ab_ex (by omega)) (ab_rg (by omega) (by omega)) (ab_rg (by omega) (by omega)) (ab_rg (by omega) (by omega))
      by_cases z3_1 : xs 3 ≤ 0
      · skip
        exact leaf2 nt1_s ck_23_8 hf 25 rfl (ab_rg (by omega) (by omega)) (ab_ex (by omega)) (ab_ex (by omega)) (ab_ex (by omega)) (ab_rg (by omega) (by omega)) (ab_rg (by omega) (by omega))
      exact leaf2 nt1_s ck_23_8 hf 26 rfl (ab_rg (by omega) (by omega)) (ab_ex (by omega)) (ab_ex (by omega)) (ab_rg (by omega) (by omega)) (ab_rg (by omega) (by omega)) (ab_rg (by omega) (by omega))
    by_cases z2_4 : xs 2 ≤ 3
    · skip
      by_cases z3_0 : xs 3 ≤ -1
      · skip
        exact leaf2 nt1_s ck_23_8 hf 27 rfl (ab_rg (by omega) (by omega)) (ab_ex (by omega)) (ab_ex (by omega)) (ab_rg (by omega) (by omega)) (ab_rg (by omega) (by omega)) (ab_rg (by omega) (by omega))
      by_cases z3_1 : xs 3 ≤ 0
      · skip
        exact leaf2 nt1_s ck_23_8 hf 28 rfl (ab_rg (by omega) (by omega)) (ab_ex (by omega)) (ab_ex (by omega)) (ab_ex (by omega)) (ab_rg (by omega) (by omega)) (ab_rg (by omega) (by omega))
      exact leaf2 nt1_s ck_23_8 hf 29 rfl (ab_rg (by omega) (by omega)) (ab_ex (by omega)) (ab_ex (by omega)) (ab_rg (by omega) (by omega)) (ab_rg (by omega) (by omega)) (ab_rg (by omega) (by omega))
    by_cases z2_5 : xs 2 ≤ 4
    · skip
      by_cases z3_0 : xs 3 ≤ -1
      · skip
        exact leaf2 nt1_s ck_23_9 hf 0 rfl (ab_rg (by omega) (by omega)) (ab_ex (by omega)) (ab_ex (by omega)) (ab_rg (by omega) (by omega)) (ab_rg (by omega) (by omega)) (ab_rg (by omega) (by omega))
      by_cases z3_1 : xs 3 ≤ 0
      · skip
        exact leaf2 nt1_s ck_23_9 hf 1 rfl (ab_rg (by omega) (by omega)) (ab_ex (by omega)) (ab_ex (by omega)) (ab_ex (by omega)) (ab_rg (by omega) (by omega)) (ab_rg (by omega) (by omega))
      exact leaf2 nt1_s ck_23_9 hf 2 rfl (ab_rg (by omega) (by omega)) (ab_ex (by omega)) (ab_ex (by omega)) (ab_rg (by omega) (by omega)) (ab_rg (by omega) (by omega)) (ab_rg (by omega) (by omega))
    by_cases z2_6 : xs 2 ≤ 5
    · skip
      by_cases z3_0 : xs 3 ≤ -1
      · skip
        exact leaf2 nt1_s ck_23_9 hf 3 rfl (ab_rg (by omega) (by omega)) (ab_ex (by omega)) (ab_ex (by omega)) (ab_rg (by omega) (by omega)) (ab_rg (by omega) (by omega)) (ab_rg (by omega) (by omega))
      by_cases z3_1 : xs 3 ≤ 0
      · skip
        exact leaf2 nt1_s ck_23_9 hf 4 rfl (ab_rg (by omega) (by omega)) (ab_ex (by omega)) (ab_ex (by omega)) (ab_ex (by omega)) (ab_rg (by omega) (by omega)) (ab_rg (by omega) (by omega))
      exact leaf2 nt1_s ck_23_9 hf 5 rfl (ab_rg (by omega) (by omega)) (ab_ex (by omega)) (ab_ex (by omega)) (ab_rg (by omega) (by omega)) (ab_rg (by omega) (by omega)) (ab_rg (by omega) (by omega))
    by_cases z2_7 : xs 2 ≤ 6
    · skip
      by_cases z3_0 : xs 3 ≤ -1
      · skip
        exact leaf2 nt1_s ck_23_9 hf 6 rfl (ab_rg (by omega) (by omega)) (ab_ex (by omega)) (ab_ex (by omega)) (ab_rg (by omega) (by omega)) (ab_rg (by omega) (by omega)) (ab_rg (by omega) (by omega))
      by_cases z3_1 : xs 3 ≤ 0
      · skip
        exact leaf2 nt1_s ck_23_9 hf 7 rfl (ab_rg (by omega) (by omega)) (ab_ex (by omega)) (ab_ex (by omega)) (ab_ex (by omega)) (ab_rg (by omega) (by omega)) (ab_rg (by omega) (by omega))
      exact leaf2 nt1_s ck_23_9 hf 8 rfl (ab_rg (by omega) (by omega)) (ab_ex (by omega)) (ab_ex (by omega)) (ab_rg (by omega) (by omega)) (ab_rg (by omega) (by omega)) (ab_rg (by omega) (by omega))
    by_cases z2_8 : xs 2 ≤ 7
    · skip
      by_cases z3_0 : xs 3 ≤ -1
      · skip
        exact leaf2 nt1_s ck_23_9 hf 9 rfl (ab_rg (by omega) (by omega)) (ab_ex (by omega)) (ab_ex (by omega)) (ab_rg (by omega) (by omega)) (ab_rg (by omega) (by omega)) (ab_rg (by omega) (by omega))
      by_cases z3_1 : xs 3 ≤ 0
      · skip
        exact leaf2 nt1_s ck_23_9 hf 10 rfl (ab_rg (by omega) (by omega)) (ab_ex (by omega)) (ab_ex (by omega)) (ab_ex (by omega)) (ab_rg (by omega) (by omega)) (ab_rg (by omega) (by omega))
      exact leaf2 nt1_s ck_23_9 hf 11 rfl (ab_rg (by omega) (by omega)) (ab_ex (by omega)) (ab_ex (by omega)) (ab_rg (by omega) (by omega)) (ab_rg (by omega) (by omega)) (ab_rg (by omega) (by omega))
    by_cases z2_9 : xs 2 ≤ 8
    · skip
      by_cases z3_0 : xs 3 ≤ -1
      · skip
        exact leaf2 nt1_s ck_23_9 hf 12 rfl (ab_rg (by omega) (by omega)) (ab_ex (by omega)) (ab_ex (by omega)) (ab_rg (by omega) (by omega)) (ab_rg (by omega) (by omega)) (ab_rg (by omega) (by omega))
      by_cases z3_1 : xs 3 ≤ 0
      · skip
        exact leaf2 nt1_s ck_23_9 hf 13 rfl (ab_rg (by omega) (by omega)) (ab_ex (by omega)) (ab_ex (by omega)) (ab_ex (by omega)) (ab_rg (by omega) (by omega)) (ab_rg (by omega) (by omega))
      exact leaf2 nt1_s ck_23_9 hf 14 rfl (ab_rg (by omega) (by omega)) (ab_ex (by omega)) (ab_ex (by omega)) (ab_rg (by omega) (by omega)) (ab_rg (by omega) (by omega)) (ab_rg (by omega) (by omega))
    by_cases z2_10 : xs 2 ≤ 9
    · skip
      by_cases z3_0 : xs 3 ≤ -1
      · skip
        exact leaf2 nt1_s ck_23_9 hf 15 rfl (ab_rg (by omega) (by omega)) (ab_ex (by omega)) (ab_ex (by omega)) (ab_rg (by omega) (by omega)) (ab_rg (by omega) (by omega)) (ab_rg (by omega) (by omega))
      by_cases z3_1 : xs 3 ≤ 0
      · skip
        exact leaf2 nt1_s ck_23_9 hf 16 rfl (ab_rg (by omega) (by omega)) (ab_ex (by omega)) (ab_ex (by omega)) (ab_ex (by omega)) (ab_rg (by omega) (by omega)) (ab_rg (by omega) (by omega))
      exact leaf2 nt1_s ck_23_9 hf 17 rfl (ab_rg (by omega) (by omega)) (ab_ex (by omega)) (ab_ex (by omega)) (ab_rg (by omega) (by omega)) (ab_rg (by omega) (by omega)) (ab_rg (by omega) (by omega))
    exact leaf2 nt1_s ck_23_9 hf 18 rfl (ab_rg (by omega) (by omega)) (ab_ex (by omega)) (ab_rg (by omega) (by omega)) (ab_rg (by omega) (by omega)) (ab_rg (by omega) (by omega)) (ab_rg (by omega) (by omega))
  exact leaf2 nt1_s ck_23_9 hf 19 rfl (ab_rg (by omega) (by omega)) (ab_rg (by omega) (by omega)) (ab_rg (by omega) (by omega)) (ab_rg (by omega) (by omega)) (ab_rg (by omega) (by omega)) (ab_rg (by omega) (by omega))
