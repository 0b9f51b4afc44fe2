/-! the shapes behind the two constructors -/
def SG : List jz_Sh := [(0, 8, [some (some 1), some (some 18), some (some 21), some (some 33), some (some 45), some (some 239), some (some 240), some (some 245), none, none]),
  (0, 5, [some (some 2), none, none, none, none, some (some 3), some (some 6)]),
  (1, 240, []),
  (0, 3, [none, none, none, some (some 4), some (some 5)]),
  (1, 7, []),
  (1, 7, []),
  (0, 0, [some (some 3), none, none, some (some 7), some (some 8), some (some 9), some (some 10), some (some 11), some (some 12), some (some 13), some (some 14), some (some 15), some (some 16)]),
  (1, 4, []),
  (1, 4, []),
  (1, 4, []),
  (1, 4, []),
  (1, 7, []),
  (1, 7, []),
  (1, 7, []),
  (1, 7, []),
  (1, 7, []),
  (0, 2, [some (some 17), none, none]),
  (1, 100, []),
  (0, 3, [none, none, none, some (some 19), some (some 20)]),
  (1, 7, []),
  (1, 7, []),
  (0, 0, [some (some 18), none, none, some (some 22), some (some 23), some (some 24), some (some 25), some (some 26), some (some 27), some (some 28), some (some 29), some (some 30), some (some 31)]),
  (1, 4, []),
  (1, 4, []),
  (1, 4, []),
  (1, 4, []),
  (1, 7, []),
  (1, 7, []),
  (1, 7, []),
  (1, 7, []),
  (1, 7, []),
  (0, 2, [some (some 32), none, none]),
  (1, 100, []),
  (0, 0, [some (some 18), none, none, some (some 34), some (some 35), some (some 36), some (some 37), some (some 38), some (some 39), some (some 40), some (some 41), some (some 42), some (some 43)]),
  (1, 4, []),
  (1, 4, []),
  (1, 4, []),
  (1, 4, []),
  (1, 7, []),
  (1, 7, []),
  (1, 7, []),
  (1, 7, []),
  (1, 7, []),
  (0, 2, [some (some 44), none, none]),
  (1, 100, []),
  (0, 4, [some (some 46), none, none]),
  (3, 16, [some (some 47), some (some 59), some (some 71), some (some 83), some (some 95), some (some 107), some (some 119), some (some 131), some (some 143), some (some 155), some (some 167), some (some 179), some (some 191), some (some 203), some (some 215), some (some 227)]),
  (0, 0, [some (some 18), none, none, some (some 48), some (some 49), some (some 50), some (some 51), some (some 52), some (some 53), some (some 54), some (some 55), some (some 56), some (some 57)]),
  (1, 4, []),
  (1, 4, []),
  (1, 4, []),
  (1, 4, []),
  (1, 7, []),
  (1, 7, []),
  (1, 7, []),
  (1, 7, []),
  (1, 7, []),
  (0, 2, [some (some 58), none, none]),
  (1, 100, []),
  (0, 0, [some (some 18), none, none, some (some 60), some (some 61), some (some 62), some (some 63), some (some 64), some (some 65), some (some 66), some (some 67), some (some 68), some (some 69)]),
  (1, 4, []),
  (1, 4, []),
  (1, 4, []),
  (1, 4, []),
  (1, 7, []),
  (1, 7, []),
  (1, 7, []),
  (1, 7, []),
  (1, 7, []),
  (0, 2, [some (some 70), none, none]),
  (1, 100, []),
  (0, 0, [some (some 18), none, none, some (some 72), some (some 73), some (some 74), some (some 75), some (some 76), some (some 77), some (some 78), some (some 79), some (some 80), some (some 81)]),
  (1, 4, []),
  (1, 4, []),
  (1, 4, []),
  (1, 4, []),
  (1, 7, []),
  (1, 7, []),
  (1, 7, []),
  (1, 7, []),
  (1, 7, []),
  (0, 2, [some (some 82), none, none]),
  (1, 100, []),
  (0, 0, [some (some 18), none, none, some (some 84), some (some 85), some (some 86), some (some 87), some (some 88), some (some 89), some (some 90), some (some 91), some (some 92), some (some 93)]),
  (1, 4, []),
  (1, 4, []),
  (1, 4, []),
  (1, 4, []),
  (1, 7, []),
  (1, 7, []),
  (1, 7, []),
  (1, 7, []),
  (1, 7, []),
  (0, 2, [some (some 94), none, none]),
  (1, 100, []),
  (0, 0, [some (some 18), none, none, some (some 96), some (some 97), some (some 98), some (some 99), some (some 100), some (some 101), some (some 102), some (some 103), some (some 104), some (some 105)]),
  (1, 4, []),
  (1, 4, []),
  (1, 4, []),
  (1, 4, []),
  (1, 7, []),
  (1, 7, []),
  (1, 7, []),
  (1, 7, []),
  (1, 7, []),
  (0, 2, [some (some 106), none, none]),
  (1, 100, []),
  (0, 0, [some (some 18), none, none, some (some 108), some (some 109), some (some 110), some (some 111), some (some 112), some (some 113), some (some 114), some (some 115), some (some 116), some (some 117)]),
  (1, 4, []),
  (1, 4, []),
  (1, 4, []),
  (1, 4, []),
  (1, 7, []),
  (1, 7, []),
  (1, 7, []),
  (1, 7, []),
  (1, 7, []),
  (0, 2, [some (some 118), none, none]),
  (1, 100, []),
  (0, 0, [some (some 18), none, none, some (some 120), some (some 121), some (some 122), some (some 123), some (some 124), some (some 125), some (some 126), some (some 127), some (some 128), some (some 129)]),
  (1, 4, []),
  (1, 4, []),
  (1, 4, []),
  (1, 4, []),
  (1, 7, []),
  (1, 7, []),
  (1, 7, []),
  (1, 7, []),
  (1, 7, []),
  (0, 2, [some (some 130), none, none]),
  (1, 100, []),
  (0, 0, [some (some 18), none, none, some (some 132), some (some 133), some (some 134), some (some 135), some (some 136), some (some 137), some (some 138), some (some 139), some (some 140), some (some 141)]),
  (1, 4, []),
  (1, 4, []),
  (1, 4, []),
  (1, 4, []),
  (1, 7, []),
  (1, 7, []),
  (1, 7, []),
  (1, 7, []),
  (1, 7, []),
  (0, 2, [some (some 142), none, none]),
  (1, 100, []),
  (0, 0, [some (some 18), none, none, some (some 144), some (some 145), some (some 146), some (some 147), some (some 148), some (some 149), some (some 150), some (some 151), some (some 152), some (some 153)]),
  (1, 4, []),
  (1, 4, []),
  (1, 4, []),
  (1, 4, []),
  (1, 7, []),
  (1, 7, []),
  (1, 7, []),
  (1, 7, []),
  (1, 7, []),
  (0, 2, [some (some 154), none, none]),
  (1, 100, []),
  (0, 0, [some (some 18), none, none, some (some 156), some (some 157), some (some 158), some (some 159), some (some 160), some (some 161), some (some 162), some (some 163), some (some 164), some (some 165)]),
  (1, 4, []),
  (1, 4, []),
  (1, 4, []),
  (1, 4, []),
  (1, 7, []),
  (1, 7, []),
  (1, 7, []),
  (1, 7, []),
  (1, 7, []),
  (0, 2, [some (some 166), none, none]),
  (1, 100, []),
  (0, 0, [some (some 18), none, none, some (some 168), some (some 169), some (some 170), some (some 171), some (some 172), some (some 173), some (some 174), some (some 175), some (some 176), some (some 177)]),
  (1, 4, []),
  (1, 4, []),
  (1, 4, []),
  (1, 4, []),
  (1, 7, []),
  (1, 7, []),
  (1, 7, []),
  (1, 7, []),
  (1, 7, []),
  (0, 2, [some (some 178), none, none]),
  (1, 100, []),
  (0, 0, [some (some 18), none, none, some (some 180), some (some 181), some (some 182), some (some 183), some (some 184), some (some 185), some (some 186), some (some 187), some (some 188), some (some 189)]),
  (1, 4, []),
  (1, 4, []),
  (1, 4, []),
  (1, 4, []),
  (1, 7, []),
  (1, 7, []),
  (1, 7, []),
  (1, 7, []),
  (1, 7, []),
  (0, 2, [some (some 190), none, none]),
  (1, 100, []),
  (0, 0, [some (some 18), none, none, some (some 192), some (some 193), some (some 194), some (some 195), some (some 196), some (some 197), some (some 198), some (some 199), some (some 200), some (some 201)]),
  (1, 4, []),
  (1, 4, []),
  (1, 4, []),
  (1, 4, []),
  (1, 7, []),
  (1, 7, []),
  (1, 7, []),
  (1, 7, []),
  (1, 7, []),
  (0, 2, [some (some 202), none, none]),
  (1, 100, []),
  (0, 0, [some (some 18), none, none, some (some 204), some (some 205), some (some 206), some (some 207), some (some 208), some (some 209), some (some 210), some (some 211), some (some 212), some (some 213)]),
  (1, 4, []),
  (1, 4, []),
  (1, 4, []),
  (1, 4, []),
  (1, 7, []),
  (1, 7, []),
  (1, 7, []),
  (1, 7, []),
  (1, 7, []),
  (0, 2, [some (some 214), none, none]),
  (1, 100, []),
  (0, 0, [some (some 18), none, none, some (some 216), some (some 217), some (some 218), some (some 219), some (some 220), some (some 221), some (some 222), some (some 223), some (some 224), some (some 225)]),
  (1, 4, []),
  (1, 4, []),
  (1, 4, []),
  (1, 4, []),
  (1, 7, []),
  (1, 7, []),
  (1, 7, []),
  (1, 7, []),
  (1, 7, []),
  (0, 2, [some (some 226), none, none]),
  (1, 100, []),
  (0, 0, [some (some 18), none, none, some (some 228), some (some 229), some (some 230), some (some 231), some (some 232), some (some 233), some (some 234), some (some 235), some (some 236), some (some 237)]),
  (1, 4, []),
  (1, 4, []),
  (1, 4, []),
  (1, 4, []),
  (1, 7, []),
  (1, 7, []),
  (1, 7, []),
  (1, 7, []),
  (1, 7, []),
  (0, 2, [some (some 238), none, none]),
  (1, 100, []),
  (4, 2, [some (some 248), some (some 261)]),
  (0, 7, [some (some 241), some (some 242), some (some 243), some (some 244), none]),
  (1, 6, []),
  (1, 6, []),
  (1, 6, []),
  (2, 6, []),
  (0, 6, [some (some 246), some (some 247), none]),
  (1, 15, []),
  (1, 15, []),
  (0, 1, [some (some 249), none, none]),
  (0, 0, [some (some 18), none, none, some (some 250), some (some 251), some (some 252), some (some 253), some (some 254), some (some 255), some (some 256), some (some 257), some (some 258), some (some 259)]),
  (1, 4, []),
  (1, 4, []),
  (1, 4, []),
  (1, 4, []),
  (1, 7, []),
  (1, 7, []),
  (1, 7, []),
  (1, 7, []),
  (1, 7, []),
  (0, 2, [some (some 260), none, none]),
  (1, 100, []),
  (0, 1, [some (some 262), none, none]),
  (0, 0, [some (some 18), none, none, some (some 263), some (some 264), some (some 265), some (some 266), some (some 267), some (some 268), some (some 269), some (some 270), some (some 271), some (some 272)]),
  (1, 4, []),
  (1, 4, []),
  (1, 4, []),
  (1, 4, []),
  (1, 7, []),
  (1, 7, []),
  (1, 7, []),
  (1, 7, []),
  (1, 7, []),
  (0, 2, [some (some 273), none, none]),
  (1, 100, []),
  (0, 9, [none, none, none, some (some 275), some (some 276), some (some 277), none, some (some 278), some (some 279), some (some 280), some (some 281), some (some 282), some (some 283), none, some (some 284), none, none, none, none, none, none, none, none, some (some 285), some (some 286), some (some 287), none, some (some 288), some (some 289), some (some 290), some (some 291), some (some 292), none, some (some 293), some (some 294), none, some (some 295), some (some 296), some (some 297), some (some 298), none, some (some 299), some (some 300), some (some 301), some (some 302)]),
  (1, 4, []),
  (1, 4, []),
  (1, 4, []),
  (1, 7, []),
  (1, 7, []),
  (1, 7, []),
  (1, 7, []),
  (1, 7, []),
  (1, 74, []),
  (1, 240, []),
  (1, 4, []),
  (1, 4, []),
  (1, 4, []),
  (1, 7, []),
  (1, 7, []),
  (1, 7, []),
  (1, 7, []),
  (1, 7, []),
  (1, 1184, []),
  (1, 74, []),
  (1, 6, []),
  (1, 6, []),
  (1, 6, []),
  (2, 6, []),
  (1, 15, []),
  (1, 15, []),
  (1, 150, []),
  (2, 2, [])]
theorem gr_0_0 (f : Nat → Nat → Int32) : jz_gr 8 0 0 (SG, f) = some 1 := rfl
theorem gr_0_1 (f : Nat → Nat → Int32) : jz_gr 8 1 0 (SG, f) = some 18 := rfl
theorem gr_0_2 (f : Nat → Nat → Int32) : jz_gr 8 2 0 (SG, f) = some 21 := rfl
theorem gr_0_3 (f : Nat → Nat → Int32) : jz_gr 8 3 0 (SG, f) = some 33 := rfl
theorem gr_0_4 (f : Nat → Nat → Int32) : jz_gr 8 4 0 (SG, f) = some 45 := rfl
theorem gr_0_5 (f : Nat → Nat → Int32) : jz_gr 8 5 0 (SG, f) = some 239 := rfl
theorem gr_0_6 (f : Nat → Nat → Int32) : jz_gr 8 6 0 (SG, f) = some 240 := rfl
theorem gr_0_7 (f : Nat → Nat → Int32) : jz_gr 8 7 0 (SG, f) = some 245 := rfl
theorem gi_0_8 (f : Nat → Nat → Int32) : jz_gi 8 8 0 (SG, f) = some (f 0 8) := rfl
theorem pi_0_8 (f : Nat → Nat → Int32) (v : Int32) : jz_pi 8 8 0 v (SG, f) = some (SG, jz_up f 0 8 v) := rfl
theorem gi_0_9 (f : Nat → Nat → Int32) : jz_gi 8 9 0 (SG, f) = some (f 0 9) := rfl
theorem pi_0_9 (f : Nat → Nat → Int32) (v : Int32) : jz_pi 8 9 0 v (SG, f) = some (SG, jz_up f 0 9 v) := rfl
theorem io_0 (f : Nat → Nat → Int32) (n : Nat) (r : List Value) : jz_isO 8 n (.ref 0 :: r) (SG, f) = (r.length == n) := by show ((r.length == n) && true) = _; rw [Bool.and_true]
theorem gr_1_0 (f : Nat → Nat → Int32) : jz_gr 5 0 1 (SG, f) = some 2 := rfl
theorem gi_1_1 (f : Nat → Nat → Int32) : jz_gi 5 1 1 (SG, f) = some (f 1 1) := rfl
theorem pi_1_1 (f : Nat → Nat → Int32) (v : Int32) : jz_pi 5 1 1 v (SG, f) = some (SG, jz_up f 1 1 v) := rfl
theorem gi_1_2 (f : Nat → Nat → Int32) : jz_gi 5 2 1 (SG, f) = some (f 1 2) := rfl
theorem pi_1_2 (f : Nat → Nat → Int32) (v : Int32) : jz_pi 5 2 1 v (SG, f) = some (SG, jz_up f 1 2 v) := rfl
theorem gi_1_3 (f : Nat → Nat → Int32) : jz_gi 5 3 1 (SG, f) = some (f 1 3) := rfl
theorem pi_1_3 (f : Nat → Nat → Int32) (v : Int32) : jz_pi 5 3 1 v (SG, f) = some (SG, jz_up f 1 3 v) := rfl
theorem gi_1_4 (f : Nat → Nat → Int32) : jz_gi 5 4 1 (SG, f) = some (f 1 4) := rfl
theorem pi_1_4 (f : Nat → Nat → Int32) (v : Int32) : jz_pi 5 4 1 v (SG, f) = some (SG, jz_up f 1 4 v) := rfl
theorem gr_1_5 (f : Nat → Nat → Int32) : jz_gr 5 5 1 (SG, f) = some 3 := rfl
theorem gr_1_6 (f : Nat → Nat → Int32) : jz_gr 5 6 1 (SG, f) = some 6 := rfl
theorem io_1 (f : Nat → Nat → Int32) (n : Nat) (r : List Value) : jz_isO 5 n (.ref 1 :: r) (SG, f) = (r.length == n) := by show ((r.length == n) && true) = _; rw [Bool.and_true]
theorem ld_2 (f : Nat → Nat → Int32) (i : Int32) : jz_ld 1 2 i (SG, f) = if jz_in i 240 = true then some (f 2 i.toNatClampNeg) else none := by show (if 1 = 1 ∧ jz_in i 240 = true then _ else _) = _; simp only [true_and]
theorem st_2 (f : Nat → Nat → Int32) (i v : Int32) : jz_st 1 2 i v (SG, f) = if jz_in i 240 = true then some (SG, jz_up f 2 i.toNatClampNeg v) else none := by show (if 1 = 1 ∧ jz_in i 240 = true then _ else _) = _; simp only [true_and]
theorem gi_3_0 (f : Nat → Nat → Int32) : jz_gi 3 0 3 (SG, f) = some (f 3 0) := rfl
theorem pi_3_0 (f : Nat → Nat → Int32) (v : Int32) : jz_pi 3 0 3 v (SG, f) = some (SG, jz_up f 3 0 v) := rfl
theorem gi_3_1 (f : Nat → Nat → Int32) : jz_gi 3 1 3 (SG, f) = some (f 3 1) := rfl
theorem pi_3_1 (f : Nat → Nat → Int32) (v : Int32) : jz_pi 3 1 3 v (SG, f) = some (SG, jz_up f 3 1 v) := rfl
theorem gi_3_2 (f : Nat → Nat → Int32) : jz_gi 3 2 3 (SG, f) = some (f 3 2) := rfl
theorem pi_3_2 (f : Nat → Nat → Int32) (v : Int32) : jz_pi 3 2 3 v (SG, f) = some (SG, jz_up f 3 2 v) := rfl
theorem gr_3_3 (f : Nat → Nat → Int32) : jz_gr 3 3 3 (SG, f) = some 4 := rfl
theorem gr_3_4 (f : Nat → Nat → Int32) : jz_gr 3 4 3 (SG, f) = some 5 := rfl
theorem io_3 (f : Nat → Nat → Int32) (n : Nat) (r : List Value) : jz_isO 3 n (.ref 3 :: r) (SG, f) = (r.length == n) := by show ((r.length == n) && true) = _; rw [Bool.and_true]
theorem ld_4 (f : Nat → Nat → Int32) (i : Int32) : jz_ld 1 4 i (SG, f) = if jz_in i 7 = true then some (f 4 i.toNatClampNeg) else none := by show (if 1 = 1 ∧ jz_in i 7 = true then _ else _) = _; simp only [true_and]
theorem st_4 (f : Nat → Nat → Int32) (i v : Int32) : jz_st 1 4 i v (SG, f) = if jz_in i 7 = true then some (SG, jz_up f 4 i.toNatClampNeg v) else none := by show (if 1 = 1 ∧ jz_in i 7 = true then _ else _) = _; simp only [true_and]
theorem ld_5 (f : Nat → Nat → Int32) (i : Int32) : jz_ld 1 5 i (SG, f) = if jz_in i 7 = true then some (f 5 i.toNatClampNeg) else none := by show (if 1 = 1 ∧ jz_in i 7 = true then _ else _) = _; simp only [true_and]
theorem st_5 (f : Nat → Nat → Int32) (i v : Int32) : jz_st 1 5 i v (SG, f) = if jz_in i 7 = true then some (SG, jz_up f 5 i.toNatClampNeg v) else none := by show (if 1 = 1 ∧ jz_in i 7 = true then _ else _) = _; simp only [true_and]
theorem gi_18_0 (f : Nat → Nat → Int32) : jz_gi 3 0 18 (SG, f) = some (f 18 0) := rfl
theorem pi_18_0 (f : Nat → Nat → Int32) (v : Int32) : jz_pi 3 0 18 v (SG, f) = some (SG, jz_up f 18 0 v) := rfl
theorem gi_18_1 (f : Nat → Nat → Int32) : jz_gi 3 1 18 (SG, f) = some (f 18 1) := rfl
theorem pi_18_1 (f : Nat → Nat → Int32) (v : Int32) : jz_pi 3 1 18 v (SG, f) = some (SG, jz_up f 18 1 v) := rfl
theorem gi_18_2 (f : Nat → Nat → Int32) : jz_gi 3 2 18 (SG, f) = some (f 18 2) := rfl
theorem pi_18_2 (f : Nat → Nat → Int32) (v : Int32) : jz_pi 3 2 18 v (SG, f) = some (SG, jz_up f 18 2 v) := rfl
theorem gr_18_3 (f : Nat → Nat → Int32) : jz_gr 3 3 18 (SG, f) = some 19 := rfl
theorem gr_18_4 (f : Nat → Nat → Int32) : jz_gr 3 4 18 (SG, f) = some 20 := rfl
theorem io_18 (f : Nat → Nat → Int32) (n : Nat) (r : List Value) : jz_isO 3 n (.ref 18 :: r) (SG, f) = (r.length == n) := by show ((r.length == n) && true) = _; rw [Bool.and_true]
theorem ld_19 (f : Nat → Nat → Int32) (i : Int32) : jz_ld 1 19 i (SG, f) = if jz_in i 7 = true then some (f 19 i.toNatClampNeg) else none := by show (if 1 = 1 ∧ jz_in i 7 = true then _ else _) = _; simp only [true_and]
theorem st_19 (f : Nat → Nat → Int32) (i v : Int32) : jz_st 1 19 i v (SG, f) = if jz_in i 7 = true then some (SG, jz_up f 19 i.toNatClampNeg v) else none := by show (if 1 = 1 ∧ jz_in i 7 = true then _ else _) = _; simp only [true_and]
theorem ld_20 (f : Nat → Nat → Int32) (i : Int32) : jz_ld 1 20 i (SG, f) = if jz_in i 7 = true then some (f 20 i.toNatClampNeg) else none := by show (if 1 = 1 ∧ jz_in i 7 = true then _ else _) = _; simp only [true_and]
theorem st_20 (f : Nat → Nat → Int32) (i v : Int32) : jz_st 1 20 i v (SG, f) = if jz_in i 7 = true then some (SG, jz_up f 20 i.toNatClampNeg v) else none := by show (if 1 = 1 ∧ jz_in i 7 = true then _ else _) = _; simp only [true_and]
theorem gr_45_0 (f : Nat → Nat → Int32) : jz_gr 4 0 45 (SG, f) = some 46 := rfl
theorem gi_45_1 (f : Nat → Nat → Int32) : jz_gi 4 1 45 (SG, f) = some (f 45 1) := rfl
theorem pi_45_1 (f : Nat → Nat → Int32) (v : Int32) : jz_pi 4 1 45 v (SG, f) = some (SG, jz_up f 45 1 v) := rfl
theorem gi_45_2 (f : Nat → Nat → Int32) : jz_gi 4 2 45 (SG, f) = some (f 45 2) := rfl
theorem pi_45_2 (f : Nat → Nat → Int32) (v : Int32) : jz_pi 4 2 45 v (SG, f) = some (SG, jz_up f 45 2 v) := rfl
theorem io_45 (f : Nat → Nat → Int32) (n : Nat) (r : List Value) : jz_isO 4 n (.ref 45 :: r) (SG, f) = (r.length == n) := by show ((r.length == n) && true) = _; rw [Bool.and_true]
theorem gr_240_0 (f : Nat → Nat → Int32) : jz_gr 7 0 240 (SG, f) = some 241 := rfl
theorem gr_240_1 (f : Nat → Nat → Int32) : jz_gr 7 1 240 (SG, f) = some 242 := rfl
theorem gr_240_2 (f : Nat → Nat → Int32) : jz_gr 7 2 240 (SG, f) = some 243 := rfl
theorem gr_240_3 (f : Nat → Nat → Int32) : jz_gr 7 3 240 (SG, f) = some 244 := rfl
theorem gi_240_4 (f : Nat → Nat → Int32) : jz_gi 7 4 240 (SG, f) = some (f 240 4) := rfl
theorem pi_240_4 (f : Nat → Nat → Int32) (v : Int32) : jz_pi 7 4 240 v (SG, f) = some (SG, jz_up f 240 4 v) := rfl
theorem io_240 (f : Nat → Nat → Int32) (n : Nat) (r : List Value) : jz_isO 7 n (.ref 240 :: r) (SG, f) = (r.length == n) := by show ((r.length == n) && true) = _; rw [Bool.and_true]
theorem ld_241 (f : Nat → Nat → Int32) (i : Int32) : jz_ld 1 241 i (SG, f) = if jz_in i 6 = true then some (f 241 i.toNatClampNeg) else none := by show (if 1 = 1 ∧ jz_in i 6 = true then _ else _) = _; simp only [true_and]
theorem st_241 (f : Nat → Nat → Int32) (i v : Int32) : jz_st 1 241 i v (SG, f) = if jz_in i 6 = true then some (SG, jz_up f 241 i.toNatClampNeg v) else none := by show (if 1 = 1 ∧ jz_in i 6 = true then _ else _) = _; simp only [true_and]
theorem ld_242 (f : Nat → Nat → Int32) (i : Int32) : jz_ld 1 242 i (SG, f) = if jz_in i 6 = true then some (f 242 i.toNatClampNeg) else none := by show (if 1 = 1 ∧ jz_in i 6 = true then _ else _) = _; simp only [true_and]
theorem st_242 (f : Nat → Nat → Int32) (i v : Int32) : jz_st 1 242 i v (SG, f) = if jz_in i 6 = true then some (SG, jz_up f 242 i.toNatClampNeg v) else none := by show (if 1 = 1 ∧ jz_in i 6 = true then _ else _) = _; simp only [true_and]
theorem ld_243 (f : Nat → Nat → Int32) (i : Int32) : jz_ld 1 243 i (SG, f) = if jz_in i 6 = true then some (f 243 i.toNatClampNeg) else none := by show (if 1 = 1 ∧ jz_in i 6 = true then _ else _) = _; simp only [true_and]
theorem st_243 (f : Nat → Nat → Int32) (i v : Int32) : jz_st 1 243 i v (SG, f) = if jz_in i 6 = true then some (SG, jz_up f 243 i.toNatClampNeg v) else none := by show (if 1 = 1 ∧ jz_in i 6 = true then _ else _) = _; simp only [true_and]
theorem ld_244 (f : Nat → Nat → Int32) (i : Int32) : jz_ld 2 244 i (SG, f) = if jz_in i 6 = true then some (f 244 i.toNatClampNeg) else none := by show (if 2 = 2 ∧ jz_in i 6 = true then _ else _) = _; simp only [true_and]
theorem st_244 (f : Nat → Nat → Int32) (i v : Int32) : jz_st 2 244 i v (SG, f) = if jz_in i 6 = true then some (SG, jz_up f 244 i.toNatClampNeg v) else none := by show (if 2 = 2 ∧ jz_in i 6 = true then _ else _) = _; simp only [true_and]
theorem gr_245_0 (f : Nat → Nat → Int32) : jz_gr 6 0 245 (SG, f) = some 246 := rfl
theorem gr_245_1 (f : Nat → Nat → Int32) : jz_gr 6 1 245 (SG, f) = some 247 := rfl
theorem gi_245_2 (f : Nat → Nat → Int32) : jz_gi 6 2 245 (SG, f) = some (f 245 2) := rfl
theorem pi_245_2 (f : Nat → Nat → Int32) (v : Int32) : jz_pi 6 2 245 v (SG, f) = some (SG, jz_up f 245 2 v) := rfl
theorem io_245 (f : Nat → Nat → Int32) (n : Nat) (r : List Value) : jz_isO 6 n (.ref 245 :: r) (SG, f) = (r.length == n) := by show ((r.length == n) && true) = _; rw [Bool.and_true]
theorem ld_246 (f : Nat → Nat → Int32) (i : Int32) : jz_ld 1 246 i (SG, f) = if jz_in i 15 = true then some (f 246 i.toNatClampNeg) else none := by show (if 1 = 1 ∧ jz_in i 15 = true then _ else _) = _; simp only [true_and]
theorem st_246 (f : Nat → Nat → Int32) (i v : Int32) : jz_st 1 246 i v (SG, f) = if jz_in i 15 = true then some (SG, jz_up f 246 i.toNatClampNeg v) else none := by show (if 1 = 1 ∧ jz_in i 15 = true then _ else _) = _; simp only [true_and]
theorem ld_247 (f : Nat → Nat → Int32) (i : Int32) : jz_ld 1 247 i (SG, f) = if jz_in i 15 = true then some (f 247 i.toNatClampNeg) else none := by show (if 1 = 1 ∧ jz_in i 15 = true then _ else _) = _; simp only [true_and]
theorem st_247 (f : Nat → Nat → Int32) (i v : Int32) : jz_st 1 247 i v (SG, f) = if jz_in i 15 = true then some (SG, jz_up f 247 i.toNatClampNeg v) else none := by show (if 1 = 1 ∧ jz_in i 15 = true then _ else _) = _; simp only [true_and]
theorem gr_248_0 (f : Nat → Nat → Int32) : jz_gr 1 0 248 (SG, f) = some 249 := rfl
theorem gi_248_1 (f : Nat → Nat → Int32) : jz_gi 1 1 248 (SG, f) = some (f 248 1) := rfl
theorem pi_248_1 (f : Nat → Nat → Int32) (v : Int32) : jz_pi 1 1 248 v (SG, f) = some (SG, jz_up f 248 1 v) := rfl
theorem gi_248_2 (f : Nat → Nat → Int32) : jz_gi 1 2 248 (SG, f) = some (f 248 2) := rfl
theorem pi_248_2 (f : Nat → Nat → Int32) (v : Int32) : jz_pi 1 2 248 v (SG, f) = some (SG, jz_up f 248 2 v) := rfl
theorem io_248 (f : Nat → Nat → Int32) (n : Nat) (r : List Value) : jz_isO 1 n (.ref 248 :: r) (SG, f) = (r.length == n) := by show ((r.length == n) && true) = _; rw [Bool.and_true]
theorem gr_261_0 (f : Nat → Nat → Int32) : jz_gr 1 0 261 (SG, f) = some 262 := rfl
theorem gi_261_1 (f : Nat → Nat → Int32) : jz_gi 1 1 261 (SG, f) = some (f 261 1) := rfl
theorem pi_261_1 (f : Nat → Nat → Int32) (v : Int32) : jz_pi 1 1 261 v (SG, f) = some (SG, jz_up f 261 1 v) := rfl
theorem gi_261_2 (f : Nat → Nat → Int32) : jz_gi 1 2 261 (SG, f) = some (f 261 2) := rfl
theorem pi_261_2 (f : Nat → Nat → Int32) (v : Int32) : jz_pi 1 2 261 v (SG, f) = some (SG, jz_up f 261 2 v) := rfl
theorem io_261 (f : Nat → Nat → Int32) (n : Nat) (r : List Value) : jz_isO 1 n (.ref 261 :: r) (SG, f) = (r.length == n) := by show ((r.length == n) && true) = _; rw [Bool.and_true]
theorem gi_274_0 (f : Nat → Nat → Int32) : jz_gi 9 0 274 (SG, f) = some (f 274 0) := rfl
theorem pi_274_0 (f : Nat → Nat → Int32) (v : Int32) : jz_pi 9 0 274 v (SG, f) = some (SG, jz_up f 274 0 v) := rfl
theorem gi_274_1 (f : Nat → Nat → Int32) : jz_gi 9 1 274 (SG, f) = some (f 274 1) := rfl
theorem pi_274_1 (f : Nat → Nat → Int32) (v : Int32) : jz_pi 9 1 274 v (SG, f) = some (SG, jz_up f 274 1 v) := rfl
theorem gi_274_2 (f : Nat → Nat → Int32) : jz_gi 9 2 274 (SG, f) = some (f 274 2) := rfl
theorem pi_274_2 (f : Nat → Nat → Int32) (v : Int32) : jz_pi 9 2 274 v (SG, f) = some (SG, jz_up f 274 2 v) := rfl
theorem gr_274_3 (f : Nat → Nat → Int32) : jz_gr 9 3 274 (SG, f) = some 275 := rfl
theorem gr_274_4 (f : Nat → Nat → Int32) : jz_gr 9 4 274 (SG, f) = some 276 := rfl
theorem gr_274_5 (f : Nat → Nat → Int32) : jz_gr 9 5 274 (SG, f) = some 277 := rfl
theorem gi_274_6 (f : Nat → Nat → Int32) : jz_gi 9 6 274 (SG, f) = some (f 274 6) := rfl
theorem pi_274_6 (f : Nat → Nat → Int32) (v : Int32) : jz_pi 9 6 274 v (SG, f) = some (SG, jz_up f 274 6 v) := rfl
theorem gr_274_7 (f : Nat → Nat → Int32) : jz_gr 9 7 274 (SG, f) = some 278 := rfl
theorem gr_274_8 (f : Nat → Nat → Int32) : jz_gr 9 8 274 (SG, f) = some 279 := rfl
theorem gr_274_9 (f : Nat → Nat → Int32) : jz_gr 9 9 274 (SG, f) = some 280 := rfl
theorem gr_274_10 (f : Nat → Nat → Int32) : jz_gr 9 10 274 (SG, f) = some 281 := rfl
theorem gr_274_11 (f : Nat → Nat → Int32) : jz_gr 9 11 274 (SG, f) = some 282 := rfl
theorem gr_274_12 (f : Nat → Nat → Int32) : jz_gr 9 12 274 (SG, f) = some 283 := rfl
theorem gi_274_13 (f : Nat → Nat → Int32) : jz_gi 9 13 274 (SG, f) = some (f 274 13) := rfl
theorem pi_274_13 (f : Nat → Nat → Int32) (v : Int32) : jz_pi 9 13 274 v (SG, f) = some (SG, jz_up f 274 13 v) := rfl
theorem gr_274_14 (f : Nat → Nat → Int32) : jz_gr 9 14 274 (SG, f) = some 284 := rfl
theorem gi_274_15 (f : Nat → Nat → Int32) : jz_gi 9 15 274 (SG, f) = some (f 274 15) := rfl
theorem pi_274_15 (f : Nat → Nat → Int32) (v : Int32) : jz_pi 9 15 274 v (SG, f) = some (SG, jz_up f 274 15 v) := rfl
theorem gi_274_16 (f : Nat → Nat → Int32) : jz_gi 9 16 274 (SG, f) = some (f 274 16) := rfl
theorem pi_274_16 (f : Nat → Nat → Int32) (v : Int32) : jz_pi 9 16 274 v (SG, f) = some (SG, jz_up f 274 16 v) := rfl
theorem gi_274_17 (f : Nat → Nat → Int32) : jz_gi 9 17 274 (SG, f) = some (f 274 17) := rfl
theorem pi_274_17 (f : Nat → Nat → Int32) (v : Int32) : jz_pi 9 17 274 v (SG, f) = some (SG, jz_up f 274 17 v) := rfl
theorem gi_274_18 (f : Nat → Nat → Int32) : jz_gi 9 18 274 (SG, f) = some (f 274 18) := rfl
theorem pi_274_18 (f : Nat → Nat → Int32) (v : Int32) : jz_pi 9 18 274 v (SG, f) = some (SG, jz_up f 274 18 v) := rfl
theorem gi_274_19 (f : Nat → Nat → Int32) : jz_gi 9 19 274 (SG, f) = some (f 274 19) := rfl
theorem pi_274_19 (f : Nat → Nat → Int32) (v : Int32) : jz_pi 9 19 274 v (SG, f) = some (SG, jz_up f 274 19 v) := rfl
theorem gi_274_20 (f : Nat → Nat → Int32) : jz_gi 9 20 274 (SG, f) = some (f 274 20) := rfl
theorem pi_274_20 (f : Nat → Nat → Int32) (v : Int32) : jz_pi 9 20 274 v (SG, f) = some (SG, jz_up f 274 20 v) := rfl
theorem gi_274_21 (f : Nat → Nat → Int32) : jz_gi 9 21 274 (SG, f) = some (f 274 21) := rfl
theorem pi_274_21 (f : Nat → Nat → Int32) (v : Int32) : jz_pi 9 21 274 v (SG, f) = some (SG, jz_up f 274 21 v) := rfl
theorem gi_274_22 (f : Nat → Nat → Int32) : jz_gi 9 22 274 (SG, f) = some (f 274 22) := rfl
theorem pi_274_22 (f : Nat → Nat → Int32) (v : Int32) : jz_pi 9 22 274 v (SG, f) = some (SG, jz_up f 274 22 v) := rfl
theorem gr_274_23 (f : Nat → Nat → Int32) : jz_gr 9 23 274 (SG, f) = some 285 := rfl
theorem gr_274_24 (f : Nat → Nat → Int32) : jz_gr 9 24 274 (SG, f) = some 286 := rfl
theorem gr_274_25 (f : Nat → Nat → Int32) : jz_gr 9 25 274 (SG, f) = some 287 := rfl
theorem gi_274_26 (f : Nat → Nat → Int32) : jz_gi 9 26 274 (SG, f) = some (f 274 26) := rfl
theorem pi_274_26 (f : Nat → Nat → Int32) (v : Int32) : jz_pi 9 26 274 v (SG, f) = some (SG, jz_up f 274 26 v) := rfl
theorem gr_274_27 (f : Nat → Nat → Int32) : jz_gr 9 27 274 (SG, f) = some 288 := rfl
theorem gr_274_28 (f : Nat → Nat → Int32) : jz_gr 9 28 274 (SG, f) = some 289 := rfl
theorem gr_274_29 (f : Nat → Nat → Int32) : jz_gr 9 29 274 (SG, f) = some 290 := rfl
theorem gr_274_30 (f : Nat → Nat → Int32) : jz_gr 9 30 274 (SG, f) = some 291 := rfl
theorem gr_274_31 (f : Nat → Nat → Int32) : jz_gr 9 31 274 (SG, f) = some 292 := rfl
theorem gi_274_32 (f : Nat → Nat → Int32) : jz_gi 9 32 274 (SG, f) = some (f 274 32) := rfl
theorem pi_274_32 (f : Nat → Nat → Int32) (v : Int32) : jz_pi 9 32 274 v (SG, f) = some (SG, jz_up f 274 32 v) := rfl
theorem gr_274_33 (f : Nat → Nat → Int32) : jz_gr 9 33 274 (SG, f) = some 293 := rfl
theorem gr_274_34 (f : Nat → Nat → Int32) : jz_gr 9 34 274 (SG, f) = some 294 := rfl
theorem gi_274_35 (f : Nat → Nat → Int32) : jz_gi 9 35 274 (SG, f) = some (f 274 35) := rfl
theorem pi_274_35 (f : Nat → Nat → Int32) (v : Int32) : jz_pi 9 35 274 v (SG, f) = some (SG, jz_up f 274 35 v) := rfl
theorem gr_274_36 (f : Nat → Nat → Int32) : jz_gr 9 36 274 (SG, f) = some 295 := rfl
theorem gr_274_37 (f : Nat → Nat → Int32) : jz_gr 9 37 274 (SG, f) = some 296 := rfl
theorem gr_274_38 (f : Nat → Nat → Int32) : jz_gr 9 38 274 (SG, f) = some 297 := rfl
theorem gr_274_39 (f : Nat → Nat → Int32) : jz_gr 9 39 274 (SG, f) = some 298 := rfl
theorem gi_274_40 (f : Nat → Nat → Int32) : jz_gi 9 40 274 (SG, f) = some (f 274 40) := rfl
theorem pi_274_40 (f : Nat → Nat → Int32) (v : Int32) : jz_pi 9 40 274 v (SG, f) = some (SG, jz_up f 274 40 v) := rfl
theorem gr_274_41 (f : Nat → Nat → Int32) : jz_gr 9 41 274 (SG, f) = some 299 := rfl
theorem gr_274_42 (f : Nat → Nat → Int32) : jz_gr 9 42 274 (SG, f) = some 300 := rfl
theorem gr_274_43 (f : Nat → Nat → Int32) : jz_gr 9 43 274 (SG, f) = some 301 := rfl
theorem gr_274_44 (f : Nat → Nat → Int32) : jz_gr 9 44 274 (SG, f) = some 302 := rfl
theorem io_274 (f : Nat → Nat → Int32) (n : Nat) (r : List Value) : jz_isO 9 n (.ref 274 :: r) (SG, f) = (r.length == n) := by show ((r.length == n) && true) = _; rw [Bool.and_true]
theorem ld_275 (f : Nat → Nat → Int32) (i : Int32) : jz_ld 1 275 i (SG, f) = if jz_in i 4 = true then some (f 275 i.toNatClampNeg) else none := by show (if 1 = 1 ∧ jz_in i 4 = true then _ else _) = _; simp only [true_and]
theorem st_275 (f : Nat → Nat → Int32) (i v : Int32) : jz_st 1 275 i v (SG, f) = if jz_in i 4 = true then some (SG, jz_up f 275 i.toNatClampNeg v) else none := by show (if 1 = 1 ∧ jz_in i 4 = true then _ else _) = _; simp only [true_and]
theorem ld_276 (f : Nat → Nat → Int32) (i : Int32) : jz_ld 1 276 i (SG, f) = if jz_in i 4 = true then some (f 276 i.toNatClampNeg) else none := by show (if 1 = 1 ∧ jz_in i 4 = true then _ else _) = _; simp only [true_and]
theorem st_276 (f : Nat → Nat → Int32) (i v : Int32) : jz_st 1 276 i v (SG, f) = if jz_in i 4 = true then some (SG, jz_up f 276 i.toNatClampNeg v) else none := by show (if 1 = 1 ∧ jz_in i 4 = true then _ else _) = _; simp only [true_and]
theorem ld_277 (f : Nat → Nat → Int32) (i : Int32) : jz_ld 1 277 i (SG, f) = if jz_in i 4 = true then some (f 277 i.toNatClampNeg) else none := by show (if 1 = 1 ∧ jz_in i 4 = true then _ else _) = _; simp only [true_and]
theorem st_277 (f : Nat → Nat → Int32) (i v : Int32) : jz_st 1 277 i v (SG, f) = if jz_in i 4 = true then some (SG, jz_up f 277 i.toNatClampNeg v) else none := by show (if 1 = 1 ∧ jz_in i 4 = true then _ else _) = _; simp only [true_and]
theorem ld_278 (f : Nat → Nat → Int32) (i : Int32) : jz_ld 1 278 i (SG, f) = if jz_in i 7 = true then some (f 278 i.toNatClampNeg) else none := by show (if 1 = 1 ∧ jz_in i 7 = true then _ else _) = _; simp only [true_and]
theorem st_278 (f : Nat → Nat → Int32) (i v : Int32) : jz_st 1 278 i v (SG, f) = if jz_in i 7 = true then some (SG, jz_up f 278 i.toNatClampNeg v) else none := by show (if 1 = 1 ∧ jz_in i 7 = true then _ else _) = _; simp only [true_and]
theorem ld_279 (f : Nat → Nat → Int32) (i : Int32) : jz_ld 1 279 i (SG, f) = if jz_in i 7 = true then some (f 279 i.toNatClampNeg) else none := by show (if 1 = 1 ∧ jz_in i 7 = true then _ else _) = _; simp only [true_and]
theorem st_279 (f : Nat → Nat → Int32) (i v : Int32) : jz_st 1 279 i v (SG, f) = if jz_in i 7 = true then some (SG, jz_up f 279 i.toNatClampNeg v) else none := by show (if 1 = 1 ∧ jz_in i 7 = true then _ else _) = _; simp only [true_and]
theorem ld_280 (f : Nat → Nat → Int32) (i : Int32) : jz_ld 1 280 i (SG, f) = if jz_in i 7 = true then some (f 280 i.toNatClampNeg) else none := by show (if 1 = 1 ∧ jz_in i 7 = true then _ else _) = _; simp only [true_and]
theorem st_280 (f : Nat → Nat → Int32) (i v : Int32) : jz_st 1 280 i v (SG, f) = if jz_in i 7 = true then some (SG, jz_up f 280 i.toNatClampNeg v) else none := by show (if 1 = 1 ∧ jz_in i 7 = true then _ else _) = _; simp only [true_and]
theorem ld_281 (f : Nat → Nat → Int32) (i : Int32) : jz_ld 1 281 i (SG, f) = if jz_in i 7 = true then some (f 281 i.toNatClampNeg) else none := by show (if 1 = 1 ∧ jz_in i 7 = true then _ else _) = _; simp only [true_and]
theorem st_281 (f : Nat → Nat → Int32) (i v : Int32) : jz_st 1 281 i v (SG, f) = if jz_in i 7 = true then some (SG, jz_up f 281 i.toNatClampNeg v) else none := by show (if 1 = 1 ∧ jz_in i 7 = true then _ else _) = _; simp only [true_and]
theorem ld_282 (f : Nat → Nat → Int32) (i : Int32) : jz_ld 1 282 i (SG, f) = if jz_in i 7 = true then some (f 282 i.toNatClampNeg) else none := by show (if 1 = 1 ∧ jz_in i 7 = true then _ else _) = _; simp only [true_and]
theorem st_282 (f : Nat → Nat → Int32) (i v : Int32) : jz_st 1 282 i v (SG, f) = if jz_in i 7 = true then some (SG, jz_up f 282 i.toNatClampNeg v) else none := by show (if 1 = 1 ∧ jz_in i 7 = true then _ else _) = _; simp only [true_and]
theorem ld_283 (f : Nat → Nat → Int32) (i : Int32) : jz_ld 1 283 i (SG, f) = if jz_in i 74 = true then some (f 283 i.toNatClampNeg) else none := by show (if 1 = 1 ∧ jz_in i 74 = true then _ else _) = _; simp only [true_and]
theorem st_283 (f : Nat → Nat → Int32) (i v : Int32) : jz_st 1 283 i v (SG, f) = if jz_in i 74 = true then some (SG, jz_up f 283 i.toNatClampNeg v) else none := by show (if 1 = 1 ∧ jz_in i 74 = true then _ else _) = _; simp only [true_and]
theorem ld_284 (f : Nat → Nat → Int32) (i : Int32) : jz_ld 1 284 i (SG, f) = if jz_in i 240 = true then some (f 284 i.toNatClampNeg) else none := by show (if 1 = 1 ∧ jz_in i 240 = true then _ else _) = _; simp only [true_and]
theorem st_284 (f : Nat → Nat → Int32) (i v : Int32) : jz_st 1 284 i v (SG, f) = if jz_in i 240 = true then some (SG, jz_up f 284 i.toNatClampNeg v) else none := by show (if 1 = 1 ∧ jz_in i 240 = true then _ else _) = _; simp only [true_and]
theorem ld_285 (f : Nat → Nat → Int32) (i : Int32) : jz_ld 1 285 i (SG, f) = if jz_in i 4 = true then some (f 285 i.toNatClampNeg) else none := by show (if 1 = 1 ∧ jz_in i 4 = true then _ else _) = _; simp only [true_and]
theorem st_285 (f : Nat → Nat → Int32) (i v : Int32) : jz_st 1 285 i v (SG, f) = if jz_in i 4 = true then some (SG, jz_up f 285 i.toNatClampNeg v) else none := by show (if 1 = 1 ∧ jz_in i 4 = true then _ else _) = _; simp only [true_and]
theorem ld_286 (f : Nat → Nat → Int32) (i : Int32) : jz_ld 1 286 i (SG, f) = if jz_in i 4 = true then some (f 286 i.toNatClampNeg) else none := by show (if 1 = 1 ∧ jz_in i 4 = true then _ else _) = _; simp only [true_and]
theorem st_286 (f : Nat → Nat → Int32) (i v : Int32) : jz_st 1 286 i v (SG, f) = if jz_in i 4 = true then some (SG, jz_up f 286 i.toNatClampNeg v) else none := by show (if 1 = 1 ∧ jz_in i 4 = true then _ else _) = _; simp only [true_and]
theorem ld_287 (f : Nat → Nat → Int32) (i : Int32) : jz_ld 1 287 i (SG, f) = if jz_in i 4 = true then some (f 287 i.toNatClampNeg) else none := by show (if 1 = 1 ∧ jz_in i 4 = true then _ else _) = _; simp only [true_and]
theorem st_287 (f : Nat → Nat → Int32) (i v : Int32) : jz_st 1 287 i v (SG, f) = if jz_in i 4 = true then some (SG, jz_up f 287 i.toNatClampNeg v) else none := by show (if 1 = 1 ∧ jz_in i 4 = true then _ else _) = _; simp only [true_and]
theorem ld_288 (f : Nat → Nat → Int32) (i : Int32) : jz_ld 1 288 i (SG, f) = if jz_in i 7 = true then some (f 288 i.toNatClampNeg) else none := by show (if 1 = 1 ∧ jz_in i 7 = true then _ else _) = _; simp only [true_and]
theorem st_288 (f : Nat → Nat → Int32) (i v : Int32) : jz_st 1 288 i v (SG, f) = if jz_in i 7 = true then some (SG, jz_up f 288 i.toNatClampNeg v) else none := by show (if 1 = 1 ∧ jz_in i 7 = true then _ else _) = _; simp only [true_and]
theorem ld_289 (f : Nat → Nat → Int32) (i : Int32) : jz_ld 1 289 i (SG, f) = if jz_in i 7 = true then some (f 289 i.toNatClampNeg) else none := by show (if 1 = 1 ∧ jz_in i 7 = true then _ else _) = _; simp only [true_and]
theorem st_289 (f : Nat → Nat → Int32) (i v : Int32) : jz_st 1 289 i v (SG, f) = if jz_in i 7 = true then some (SG, jz_up f 289 i.toNatClampNeg v) else none := by show (if 1 = 1 ∧ jz_in i 7 = true then _ else _) = _; simp only [true_and]
theorem ld_290 (f : Nat → Nat → Int32) (i : Int32) : jz_ld 1 290 i (SG, f) = if jz_in i 7 = true then some (f 290 i.toNatClampNeg) else none := by show (if 1 = 1 ∧ jz_in i 7 = true then _ else _) = _; simp only [true_and]
theorem st_290 (f : Nat → Nat → Int32) (i v : Int32) : jz_st 1 290 i v (SG, f) = if jz_in i 7 = true then some (SG, jz_up f 290 i.toNatClampNeg v) else none := by show (if 1 = 1 ∧ jz_in i 7 = true then _ else _) = _; simp only [true_and]
theorem ld_291 (f : Nat → Nat → Int32) (i : Int32) : jz_ld 1 291 i (SG, f) = if jz_in i 7 = true then some (f 291 i.toNatClampNeg) else none := by show (if 1 = 1 ∧ jz_in i 7 = true then _ else _) = _; simp only [true_and]
theorem st_291 (f : Nat → Nat → Int32) (i v : Int32) : jz_st 1 291 i v (SG, f) = if jz_in i 7 = true then some (SG, jz_up f 291 i.toNatClampNeg v) else none := by show (if 1 = 1 ∧ jz_in i 7 = true then _ else _) = _; simp only [true_and]
theorem ld_292 (f : Nat → Nat → Int32) (i : Int32) : jz_ld 1 292 i (SG, f) = if jz_in i 7 = true then some (f 292 i.toNatClampNeg) else none := by show (if 1 = 1 ∧ jz_in i 7 = true then _ else _) = _; simp only [true_and]
theorem st_292 (f : Nat → Nat → Int32) (i v : Int32) : jz_st 1 292 i v (SG, f) = if jz_in i 7 = true then some (SG, jz_up f 292 i.toNatClampNeg v) else none := by show (if 1 = 1 ∧ jz_in i 7 = true then _ else _) = _; simp only [true_and]
theorem ld_293 (f : Nat → Nat → Int32) (i : Int32) : jz_ld 1 293 i (SG, f) = if jz_in i 1184 = true then some (f 293 i.toNatClampNeg) else none := by show (if 1 = 1 ∧ jz_in i 1184 = true then _ else _) = _; simp only [true_and]
theorem st_293 (f : Nat → Nat → Int32) (i v : Int32) : jz_st 1 293 i v (SG, f) = if jz_in i 1184 = true then some (SG, jz_up f 293 i.toNatClampNeg v) else none := by show (if 1 = 1 ∧ jz_in i 1184 = true then _ else _) = _; simp only [true_and]
theorem ld_294 (f : Nat → Nat → Int32) (i : Int32) : jz_ld 1 294 i (SG, f) = if jz_in i 74 = true then some (f 294 i.toNatClampNeg) else none := by show (if 1 = 1 ∧ jz_in i 74 = true then _ else _) = _; simp only [true_and]
theorem st_294 (f : Nat → Nat → Int32) (i v : Int32) : jz_st 1 294 i v (SG, f) = if jz_in i 74 = true then some (SG, jz_up f 294 i.toNatClampNeg v) else none := by show (if 1 = 1 ∧ jz_in i 74 = true then _ else _) = _; simp only [true_and]
theorem ld_295 (f : Nat → Nat → Int32) (i : Int32) : jz_ld 1 295 i (SG, f) = if jz_in i 6 = true then some (f 295 i.toNatClampNeg) else none := by show (if 1 = 1 ∧ jz_in i 6 = true then _ else _) = _; simp only [true_and]
theorem st_295 (f : Nat → Nat → Int32) (i v : Int32) : jz_st 1 295 i v (SG, f) = if jz_in i 6 = true then some (SG, jz_up f 295 i.toNatClampNeg v) else none := by show (if 1 = 1 ∧ jz_in i 6 = true then _ else _) = _; simp only [true_and]
theorem ld_296 (f : Nat → Nat → Int32) (i : Int32) : jz_ld 1 296 i (SG, f) = if jz_in i 6 = true then some (f 296 i.toNatClampNeg) else none := by show (if 1 = 1 ∧ jz_in i 6 = true then _ else _) = _; simp only [true_and]
theorem st_296 (f : Nat → Nat → Int32) (i v : Int32) : jz_st 1 296 i v (SG, f) = if jz_in i 6 = true then some (SG, jz_up f 296 i.toNatClampNeg v) else none := by show (if 1 = 1 ∧ jz_in i 6 = true then _ else _) = _; simp only [true_and]
theorem ld_297 (f : Nat → Nat → Int32) (i : Int32) : jz_ld 1 297 i (SG, f) = if jz_in i 6 = true then some (f 297 i.toNatClampNeg) else none := by show (if 1 = 1 ∧ jz_in i 6 = true then _ else _) = _; simp only [true_and]
theorem st_297 (f : Nat → Nat → Int32) (i v : Int32) : jz_st 1 297 i v (SG, f) = if jz_in i 6 = true then some (SG, jz_up f 297 i.toNatClampNeg v) else none := by show (if 1 = 1 ∧ jz_in i 6 = true then _ else _) = _; simp only [true_and]
theorem ld_298 (f : Nat → Nat → Int32) (i : Int32) : jz_ld 2 298 i (SG, f) = if jz_in i 6 = true then some (f 298 i.toNatClampNeg) else none := by show (if 2 = 2 ∧ jz_in i 6 = true then _ else _) = _; simp only [true_and]
theorem st_298 (f : Nat → Nat → Int32) (i v : Int32) : jz_st 2 298 i v (SG, f) = if jz_in i 6 = true then some (SG, jz_up f 298 i.toNatClampNeg v) else none := by show (if 2 = 2 ∧ jz_in i 6 = true then _ else _) = _; simp only [true_and]
theorem ld_299 (f : Nat → Nat → Int32) (i : Int32) : jz_ld 1 299 i (SG, f) = if jz_in i 15 = true then some (f 299 i.toNatClampNeg) else none := by show (if 1 = 1 ∧ jz_in i 15 = true then _ else _) = _; simp only [true_and]
theorem st_299 (f : Nat → Nat → Int32) (i v : Int32) : jz_st 1 299 i v (SG, f) = if jz_in i 15 = true then some (SG, jz_up f 299 i.toNatClampNeg v) else none := by show (if 1 = 1 ∧ jz_in i 15 = true then _ else _) = _; simp only [true_and]
theorem ld_300 (f : Nat → Nat → Int32) (i : Int32) : jz_ld 1 300 i (SG, f) = if jz_in i 15 = true then some (f 300 i.toNatClampNeg) else none := by show (if 1 = 1 ∧ jz_in i 15 = true then _ else _) = _; simp only [true_and]
theorem st_300 (f : Nat → Nat → Int32) (i v : Int32) : jz_st 1 300 i v (SG, f) = if jz_in i 15 = true then some (SG, jz_up f 300 i.toNatClampNeg v) else none := by show (if 1 = 1 ∧ jz_in i 15 = true then _ else _) = _; simp only [true_and]
theorem ld_301 (f : Nat → Nat → Int32) (i : Int32) : jz_ld 1 301 i (SG, f) = if jz_in i 150 = true then some (f 301 i.toNatClampNeg) else none := by show (if 1 = 1 ∧ jz_in i 150 = true then _ else _) = _; simp only [true_and]
theorem st_301 (f : Nat → Nat → Int32) (i v : Int32) : jz_st 1 301 i v (SG, f) = if jz_in i 150 = true then some (SG, jz_up f 301 i.toNatClampNeg v) else none := by show (if 1 = 1 ∧ jz_in i 150 = true then _ else _) = _; simp only [true_and]
theorem ld_302 (f : Nat → Nat → Int32) (i : Int32) : jz_ld 2 302 i (SG, f) = if jz_in i 2 = true then some (f 302 i.toNatClampNeg) else none := by show (if 2 = 2 ∧ jz_in i 2 = true then _ else _) = _; simp only [true_and]
theorem st_302 (f : Nat → Nat → Int32) (i v : Int32) : jz_st 2 302 i v (SG, f) = if jz_in i 2 = true then some (SG, jz_up f 302 i.toNatClampNeg v) else none := by show (if 2 = 2 ∧ jz_in i 2 = true then _ else _) = _; simp only [true_and]
/-- a day stands at d, on the road r -/
def DayAt (d r : Nat) : Prop := SG[d]? = some (0, 0, [some (some r), none, none, some (some (d + 1)), some (some (d + 2)), some (some (d + 3)), some (some (d + 4)), some (some (d + 5)), some (some (d + 6)), some (some (d + 7)), some (some (d + 8)), some (some (d + 9)), some (some (d + 10))]) ∧ SG[d + 1]? = some (1, 4, []) ∧ SG[d + 2]? = some (1, 4, []) ∧ SG[d + 3]? = some (1, 4, []) ∧ SG[d + 4]? = some (1, 4, []) ∧ SG[d + 5]? = some (1, 7, []) ∧ SG[d + 6]? = some (1, 7, []) ∧ SG[d + 7]? = some (1, 7, []) ∧ SG[d + 8]? = some (1, 7, []) ∧ SG[d + 9]? = some (1, 7, []) ∧ SG[d + 10]? = some (0, 2, [some (some (d + 11)), none, none]) ∧ SG[d + 11]? = some (1, 100, [])
theorem day_reader : DayAt 6 3 := ⟨rfl, rfl, rfl, rfl, rfl, rfl, rfl, rfl, rfl, rfl, rfl, rfl⟩
theorem day_now : DayAt 21 18 := ⟨rfl, rfl, rfl, rfl, rfl, rfl, rfl, rfl, rfl, rfl, rfl, rfl⟩
theorem day_trial : DayAt 33 18 := ⟨rfl, rfl, rfl, rfl, rfl, rfl, rfl, rfl, rfl, rfl, rfl, rfl⟩
theorem day_im0 : DayAt 249 18 := ⟨rfl, rfl, rfl, rfl, rfl, rfl, rfl, rfl, rfl, rfl, rfl, rfl⟩
theorem day_im1 : DayAt 262 18 := ⟨rfl, rfl, rfl, rfl, rfl, rfl, rfl, rfl, rfl, rfl, rfl, rfl⟩
theorem day_past : ∀ i, i < 16 → DayAt (47 + 12 * i) 18 := by
  intro i hi
  rcases (show i = 0 ∨ i = 1 ∨ i = 2 ∨ i = 3 ∨ i = 4 ∨ i = 5 ∨ i = 6 ∨ i = 7 ∨ i = 8 ∨ i = 9 ∨ i = 10 ∨ i = 11 ∨ i = 12 ∨ i = 13 ∨ i = 14 ∨ i = 15 by omega) with rfl | rfl | rfl | rfl | rfl | rfl | rfl | rfl | rfl | rfl | rfl | rfl | rfl | rfl | rfl | rfl <;> exact ⟨rfl, rfl, rfl, rfl, rfl, rfl, rfl, rfl, rfl, rfl, rfl, rfl⟩
theorem gi_of {S : List jz_Sh} {ci k a : Nat} {fs : List (Option (Option Nat))} (f : Nat → Nat → Int32) (h : S[a]? = some (0, ci, fs)) (hk : fs[k]? = some none) : jz_gi ci k a (S, f) = some (f a k) := by
  unfold jz_gi
  simp only [h, hk, and_self, if_true]
theorem pi_of {S : List jz_Sh} {ci k a : Nat} {fs : List (Option (Option Nat))} (f : Nat → Nat → Int32) (v : Int32) (h : S[a]? = some (0, ci, fs)) (hk : fs[k]? = some none) : jz_pi ci k a v (S, f) = some (S, jz_up f a k v) := by
  unfold jz_pi
  simp only [h, hk, and_self, if_true]
theorem gr_of {S : List jz_Sh} {ci k a r : Nat} {fs : List (Option (Option Nat))} (f : Nat → Nat → Int32) (h : S[a]? = some (0, ci, fs)) (hk : fs[k]? = some (some (some r))) : jz_gr ci k a (S, f) = some r := by
  unfold jz_gr
  simp only [h, hk, if_true]
theorem ld_of {S : List jz_Sh} {t n a : Nat} {fs : List (Option (Option Nat))} (f : Nat → Nat → Int32) (i : Int32) (h : S[a]? = some (t, n, fs)) : jz_ld t a i (S, f) = if jz_in i n = true then some (f a i.toNatClampNeg) else none := by
  unfold jz_ld
  simp only [h, true_and]
theorem st_of {S : List jz_Sh} {t n a : Nat} {fs : List (Option (Option Nat))} (f : Nat → Nat → Int32) (i v : Int32) (h : S[a]? = some (t, n, fs)) : jz_st t a i v (S, f) = if jz_in i n = true then some (S, jz_up f a i.toNatClampNeg v) else none := by
  unfold jz_st
  simp only [h, true_and]
theorem io_of {S : List jz_Sh} {ci a : Nat} {fs : List (Option (Option Nat))} (f : Nat → Nat → Int32) (n : Nat) (r : List Value) (h : S[a]? = some (0, ci, fs)) : jz_isO ci n (.ref a :: r) (S, f) = (r.length == n) := by
  unfold jz_isO
  simp only [h, BEq.rfl, Bool.and_true]
theorem dgr_0 {d r : Nat} (h : DayAt d r) (f : Nat → Nat → Int32) : jz_gr 0 0 d (SG, f) = some r := gr_of f h.1 rfl
theorem dgi_1 {d r : Nat} (h : DayAt d r) (f : Nat → Nat → Int32) : jz_gi 0 1 d (SG, f) = some (f d 1) := gi_of f h.1 rfl
theorem dpi_1 {d r : Nat} (h : DayAt d r) (f : Nat → Nat → Int32) (v : Int32) : jz_pi 0 1 d v (SG, f) = some (SG, jz_up f d 1 v) := pi_of f v h.1 rfl
theorem dgi_2 {d r : Nat} (h : DayAt d r) (f : Nat → Nat → Int32) : jz_gi 0 2 d (SG, f) = some (f d 2) := gi_of f h.1 rfl
theorem dpi_2 {d r : Nat} (h : DayAt d r) (f : Nat → Nat → Int32) (v : Int32) : jz_pi 0 2 d v (SG, f) = some (SG, jz_up f d 2 v) := pi_of f v h.1 rfl
theorem dgr_3 {d r : Nat} (h : DayAt d r) (f : Nat → Nat → Int32) : jz_gr 0 3 d (SG, f) = some (d + 1) := gr_of f h.1 rfl
theorem dgr_4 {d r : Nat} (h : DayAt d r) (f : Nat → Nat → Int32) : jz_gr 0 4 d (SG, f) = some (d + 2) := gr_of f h.1 rfl
theorem dgr_5 {d r : Nat} (h : DayAt d r) (f : Nat → Nat → Int32) : jz_gr 0 5 d (SG, f) = some (d + 3) := gr_of f h.1 rfl
theorem dgr_6 {d r : Nat} (h : DayAt d r) (f : Nat → Nat → Int32) : jz_gr 0 6 d (SG, f) = some (d + 4) := gr_of f h.1 rfl
theorem dgr_7 {d r : Nat} (h : DayAt d r) (f : Nat → Nat → Int32) : jz_gr 0 7 d (SG, f) = some (d + 5) := gr_of f h.1 rfl
theorem dgr_8 {d r : Nat} (h : DayAt d r) (f : Nat → Nat → Int32) : jz_gr 0 8 d (SG, f) = some (d + 6) := gr_of f h.1 rfl
theorem dgr_9 {d r : Nat} (h : DayAt d r) (f : Nat → Nat → Int32) : jz_gr 0 9 d (SG, f) = some (d + 7) := gr_of f h.1 rfl
theorem dgr_10 {d r : Nat} (h : DayAt d r) (f : Nat → Nat → Int32) : jz_gr 0 10 d (SG, f) = some (d + 8) := gr_of f h.1 rfl
theorem dgr_11 {d r : Nat} (h : DayAt d r) (f : Nat → Nat → Int32) : jz_gr 0 11 d (SG, f) = some (d + 9) := gr_of f h.1 rfl
theorem dgr_12 {d r : Nat} (h : DayAt d r) (f : Nat → Nat → Int32) : jz_gr 0 12 d (SG, f) = some (d + 10) := gr_of f h.1 rfl
theorem dld_1 {d r : Nat} (h : DayAt d r) (f : Nat → Nat → Int32) (i : Int32) : jz_ld 1 (d + 1) i (SG, f) = if jz_in i 4 = true then some (f (d + 1) i.toNatClampNeg) else none := ld_of f i h.2.1
theorem dst_1 {d r : Nat} (h : DayAt d r) (f : Nat → Nat → Int32) (i v : Int32) : jz_st 1 (d + 1) i v (SG, f) = if jz_in i 4 = true then some (SG, jz_up f (d + 1) i.toNatClampNeg v) else none := st_of f i v h.2.1
theorem dld_2 {d r : Nat} (h : DayAt d r) (f : Nat → Nat → Int32) (i : Int32) : jz_ld 1 (d + 2) i (SG, f) = if jz_in i 4 = true then some (f (d + 2) i.toNatClampNeg) else none := ld_of f i h.2.2.1
theorem dst_2 {d r : Nat} (h : DayAt d r) (f : Nat → Nat → Int32) (i v : Int32) : jz_st 1 (d + 2) i v (SG, f) = if jz_in i 4 = true then some (SG, jz_up f (d + 2) i.toNatClampNeg v) else none := st_of f i v h.2.2.1
theorem dld_3 {d r : Nat} (h : DayAt d r) (f : Nat → Nat → Int32) (i : Int32) : jz_ld 1 (d + 3) i (SG, f) = if jz_in i 4 = true then some (f (d + 3) i.toNatClampNeg) else none := ld_of f i h.2.2.2.1
theorem dst_3 {d r : Nat} (h : DayAt d r) (f : Nat → Nat → Int32) (i v : Int32) : jz_st 1 (d + 3) i v (SG, f) = if jz_in i 4 = true then some (SG, jz_up f (d + 3) i.toNatClampNeg v) else none := st_of f i v h.2.2.2.1
theorem dld_4 {d r : Nat} (h : DayAt d r) (f : Nat → Nat → Int32) (i : Int32) : jz_ld 1 (d + 4) i (SG, f) = if jz_in i 4 = true then some (f (d + 4) i.toNatClampNeg) else none := ld_of f i h.2.2.2.2.1
theorem dst_4 {d r : Nat} (h : DayAt d r) (f : Nat → Nat → Int32) (i v : Int32) : jz_st 1 (d + 4) i v (SG, f) = if jz_in i 4 = true then some (SG, jz_up f (d + 4) i.toNatClampNeg v) else none := st_of f i v h.2.2.2.2.1
theorem dld_5 {d r : Nat} (h : DayAt d r) (f : Nat → Nat → Int32) (i : Int32) : jz_ld 1 (d + 5) i (SG, f) = if jz_in i 7 = true then some (f (d + 5) i.toNatClampNeg) else none := ld_of f i h.2.2.2.2.2.1
theorem dst_5 {d r : Nat} (h : DayAt d r) (f : Nat → Nat → Int32) (i v : Int32) : jz_st 1 (d + 5) i v (SG, f) = if jz_in i 7 = true then some (SG, jz_up f (d + 5) i.toNatClampNeg v) else none := st_of f i v h.2.2.2.2.2.1
theorem dld_6 {d r : Nat} (h : DayAt d r) (f : Nat → Nat → Int32) (i : Int32) : jz_ld 1 (d + 6) i (SG, f) = if jz_in i 7 = true then some (f (d + 6) i.toNatClampNeg) else none := ld_of f i h.2.2.2.2.2.2.1
theorem dst_6 {d r : Nat} (h : DayAt d r) (f : Nat → Nat → Int32) (i v : Int32) : jz_st 1 (d + 6) i v (SG, f) = if jz_in i 7 = true then some (SG, jz_up f (d + 6) i.toNatClampNeg v) else none := st_of f i v h.2.2.2.2.2.2.1
theorem dld_7 {d r : Nat} (h : DayAt d r) (f : Nat → Nat → Int32) (i : Int32) : jz_ld 1 (d + 7) i (SG, f) = if jz_in i 7 = true then some (f (d + 7) i.toNatClampNeg) else none := ld_of f i h.2.2.2.2.2.2.2.1
theorem dst_7 {d r : Nat} (h : DayAt d r) (f : Nat → Nat → Int32) (i v : Int32) : jz_st 1 (d + 7) i v (SG, f) = if jz_in i 7 = true then some (SG, jz_up f (d + 7) i.toNatClampNeg v) else none := st_of f i v h.2.2.2.2.2.2.2.1
theorem dld_8 {d r : Nat} (h : DayAt d r) (f : Nat → Nat → Int32) (i : Int32) : jz_ld 1 (d + 8) i (SG, f) = if jz_in i 7 = true then some (f (d + 8) i.toNatClampNeg) else none := ld_of f i h.2.2.2.2.2.2.2.2.1
theorem dst_8 {d r : Nat} (h : DayAt d r) (f : Nat → Nat → Int32) (i v : Int32) : jz_st 1 (d + 8) i v (SG, f) = if jz_in i 7 = true then some (SG, jz_up f (d + 8) i.toNatClampNeg v) else none := st_of f i v h.2.2.2.2.2.2.2.2.1
theorem dld_9 {d r : Nat} (h : DayAt d r) (f : Nat → Nat → Int32) (i : Int32) : jz_ld 1 (d + 9) i (SG, f) = if jz_in i 7 = true then some (f (d + 9) i.toNatClampNeg) else none := ld_of f i h.2.2.2.2.2.2.2.2.2.1
theorem dst_9 {d r : Nat} (h : DayAt d r) (f : Nat → Nat → Int32) (i v : Int32) : jz_st 1 (d + 9) i v (SG, f) = if jz_in i 7 = true then some (SG, jz_up f (d + 9) i.toNatClampNeg v) else none := st_of f i v h.2.2.2.2.2.2.2.2.2.1
theorem dbr_0 {d r : Nat} (h : DayAt d r) (f : Nat → Nat → Int32) : jz_gr 2 0 (d + 10) (SG, f) = some (d + 11) := gr_of f h.2.2.2.2.2.2.2.2.2.2.1 rfl
theorem dbi_1 {d r : Nat} (h : DayAt d r) (f : Nat → Nat → Int32) : jz_gi 2 1 (d + 10) (SG, f) = some (f (d + 10) 1) := gi_of f h.2.2.2.2.2.2.2.2.2.2.1 rfl
theorem dbp_1 {d r : Nat} (h : DayAt d r) (f : Nat → Nat → Int32) (v : Int32) : jz_pi 2 1 (d + 10) v (SG, f) = some (SG, jz_up f (d + 10) 1 v) := pi_of f v h.2.2.2.2.2.2.2.2.2.2.1 rfl
theorem dbi_2 {d r : Nat} (h : DayAt d r) (f : Nat → Nat → Int32) : jz_gi 2 2 (d + 10) (SG, f) = some (f (d + 10) 2) := gi_of f h.2.2.2.2.2.2.2.2.2.2.1 rfl
theorem dbp_2 {d r : Nat} (h : DayAt d r) (f : Nat → Nat → Int32) (v : Int32) : jz_pi 2 2 (d + 10) v (SG, f) = some (SG, jz_up f (d + 10) 2 v) := pi_of f v h.2.2.2.2.2.2.2.2.2.2.1 rfl
theorem dbo {d r : Nat} (h : DayAt d r) (f : Nat → Nat → Int32) (n : Nat) (l : List Value) : jz_isO 2 n (.ref (d + 10) :: l) (SG, f) = (l.length == n) := io_of f n l h.2.2.2.2.2.2.2.2.2.2.1
theorem dld_11 {d r : Nat} (h : DayAt d r) (f : Nat → Nat → Int32) (i : Int32) : jz_ld 1 (d + 11) i (SG, f) = if jz_in i 100 = true then some (f (d + 11) i.toNatClampNeg) else none := ld_of f i h.2.2.2.2.2.2.2.2.2.2.2
theorem dst_11 {d r : Nat} (h : DayAt d r) (f : Nat → Nat → Int32) (i v : Int32) : jz_st 1 (d + 11) i v (SG, f) = if jz_in i 100 = true then some (SG, jz_up f (d + 11) i.toNatClampNeg v) else none := st_of f i v h.2.2.2.2.2.2.2.2.2.2.2
theorem dio {d r : Nat} (h : DayAt d r) (f : Nat → Nat → Int32) (n : Nat) (l : List Value) : jz_isO 0 n (.ref d :: l) (SG, f) = (l.length == n) := io_of f n l h.1
