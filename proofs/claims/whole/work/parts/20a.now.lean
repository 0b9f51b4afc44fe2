theorem gr_21_0 (f : Nat → Nat → Int32) : jz_gr 0 0 21 (SG, f) = some 18 := rfl
theorem gi_21_1 (f : Nat → Nat → Int32) : jz_gi 0 1 21 (SG, f) = some (f 21 1) := rfl
theorem pi_21_1 (f : Nat → Nat → Int32) (v : Int32) : jz_pi 0 1 21 v (SG, f) = some (SG, jz_up f 21 1 v) := rfl
theorem gi_21_2 (f : Nat → Nat → Int32) : jz_gi 0 2 21 (SG, f) = some (f 21 2) := rfl
theorem pi_21_2 (f : Nat → Nat → Int32) (v : Int32) : jz_pi 0 2 21 v (SG, f) = some (SG, jz_up f 21 2 v) := rfl
theorem gr_21_3 (f : Nat → Nat → Int32) : jz_gr 0 3 21 (SG, f) = some 22 := rfl
theorem gr_21_4 (f : Nat → Nat → Int32) : jz_gr 0 4 21 (SG, f) = some 23 := rfl
theorem gr_21_5 (f : Nat → Nat → Int32) : jz_gr 0 5 21 (SG, f) = some 24 := rfl
theorem gr_21_6 (f : Nat → Nat → Int32) : jz_gr 0 6 21 (SG, f) = some 25 := rfl
theorem gr_21_7 (f : Nat → Nat → Int32) : jz_gr 0 7 21 (SG, f) = some 26 := rfl
theorem gr_21_8 (f : Nat → Nat → Int32) : jz_gr 0 8 21 (SG, f) = some 27 := rfl
theorem gr_21_9 (f : Nat → Nat → Int32) : jz_gr 0 9 21 (SG, f) = some 28 := rfl
theorem gr_21_10 (f : Nat → Nat → Int32) : jz_gr 0 10 21 (SG, f) = some 29 := rfl
theorem gr_21_11 (f : Nat → Nat → Int32) : jz_gr 0 11 21 (SG, f) = some 30 := rfl
theorem gr_21_12 (f : Nat → Nat → Int32) : jz_gr 0 12 21 (SG, f) = some 31 := rfl
theorem io_21 (f : Nat → Nat → Int32) (n : Nat) (r : List Value) : jz_isO 0 n (.ref 21 :: r) (SG, f) = (r.length == n) := by show ((r.length == n) && true) = _; rw [Bool.and_true]
theorem ld_22 (f : Nat → Nat → Int32) (i : Int32) : jz_ld 1 22 i (SG, f) = if jz_in i 4 = true then some (f 22 i.toNatClampNeg) else none := by show (if 1 = 1 ∧ jz_in i 4 = true then _ else _) = _; simp only [true_and]
theorem st_22 (f : Nat → Nat → Int32) (i v : Int32) : jz_st 1 22 i v (SG, f) = if jz_in i 4 = true then some (SG, jz_up f 22 i.toNatClampNeg v) else none := by show (if 1 = 1 ∧ jz_in i 4 = true then _ else _) = _; simp only [true_and]
theorem ld_23 (f : Nat → Nat → Int32) (i : Int32) : jz_ld 1 23 i (SG, f) = if jz_in i 4 = true then some (f 23 i.toNatClampNeg) else none := by show (if 1 = 1 ∧ jz_in i 4 = true then _ else _) = _; simp only [true_and]
theorem st_23 (f : Nat → Nat → Int32) (i v : Int32) : jz_st 1 23 i v (SG, f) = if jz_in i 4 = true then some (SG, jz_up f 23 i.toNatClampNeg v) else none := by show (if 1 = 1 ∧ jz_in i 4 = true then _ else _) = _; simp only [true_and]
theorem ld_24 (f : Nat → Nat → Int32) (i : Int32) : jz_ld 1 24 i (SG, f) = if jz_in i 4 = true then some (f 24 i.toNatClampNeg) else none := by show (if 1 = 1 ∧ jz_in i 4 = true then _ else _) = _; simp only [true_and]
theorem st_24 (f : Nat → Nat → Int32) (i v : Int32) : jz_st 1 24 i v (SG, f) = if jz_in i 4 = true then some (SG, jz_up f 24 i.toNatClampNeg v) else none := by show (if 1 = 1 ∧ jz_in i 4 = true then _ else _) = _; simp only [true_and]
theorem ld_25 (f : Nat → Nat → Int32) (i : Int32) : jz_ld 1 25 i (SG, f) = if jz_in i 4 = true then some (f 25 i.toNatClampNeg) else none := by show (if 1 = 1 ∧ jz_in i 4 = true then _ else _) = _; simp only [true_and]
theorem st_25 (f : Nat → Nat → Int32) (i v : Int32) : jz_st 1 25 i v (SG, f) = if jz_in i 4 = true then some (SG, jz_up f 25 i.toNatClampNeg v) else none := by show (if 1 = 1 ∧ jz_in i 4 = true then _ else _) = _; simp only [true_and]
theorem ld_26 (f : Nat → Nat → Int32) (i : Int32) : jz_ld 1 26 i (SG, f) = if jz_in i 7 = true then some (f 26 i.toNatClampNeg) else none := by show (if 1 = 1 ∧ jz_in i 7 = true then _ else _) = _; simp only [true_and]
theorem st_26 (f : Nat → Nat → Int32) (i v : Int32) : jz_st 1 26 i v (SG, f) = if jz_in i 7 = true then some (SG, jz_up f 26 i.toNatClampNeg v) else none := by show (if 1 = 1 ∧ jz_in i 7 = true then _ else _) = _; simp only [true_and]
theorem ld_27 (f : Nat → Nat → Int32) (i : Int32) : jz_ld 1 27 i (SG, f) = if jz_in i 7 = true then some (f 27 i.toNatClampNeg) else none := by show (if 1 = 1 ∧ jz_in i 7 = true then _ else _) = _; simp only [true_and]
theorem st_27 (f : Nat → Nat → Int32) (i v : Int32) : jz_st 1 27 i v (SG, f) = if jz_in i 7 = true then some (SG, jz_up f 27 i.toNatClampNeg v) else none := by show (if 1 = 1 ∧ jz_in i 7 = true then _ else _) = _; simp only [true_and]
theorem ld_28 (f : Nat → Nat → Int32) (i : Int32) : jz_ld 1 28 i (SG, f) = if jz_in i 7 = true then some (f 28 i.toNatClampNeg) else none := by show (if 1 = 1 ∧ jz_in i 7 = true then _ else _) = _; simp only [true_and]
theorem st_28 (f : Nat → Nat → Int32) (i v : Int32) : jz_st 1 28 i v (SG, f) = if jz_in i 7 = true then some (SG, jz_up f 28 i.toNatClampNeg v) else none := by show (if 1 = 1 ∧ jz_in i 7 = true then _ else _) = _; simp only [true_and]
theorem ld_29 (f : Nat → Nat → Int32) (i : Int32) : jz_ld 1 29 i (SG, f) = if jz_in i 7 = true then some (f 29 i.toNatClampNeg) else none := by show (if 1 = 1 ∧ jz_in i 7 = true then _ else _) = _; simp only [true_and]
theorem st_29 (f : Nat → Nat → Int32) (i v : Int32) : jz_st 1 29 i v (SG, f) = if jz_in i 7 = true then some (SG, jz_up f 29 i.toNatClampNeg v) else none := by show (if 1 = 1 ∧ jz_in i 7 = true then _ else _) = _; simp only [true_and]
theorem ld_30 (f : Nat → Nat → Int32) (i : Int32) : jz_ld 1 30 i (SG, f) = if jz_in i 7 = true then some (f 30 i.toNatClampNeg) else none := by show (if 1 = 1 ∧ jz_in i 7 = true then _ else _) = _; simp only [true_and]
theorem st_30 (f : Nat → Nat → Int32) (i v : Int32) : jz_st 1 30 i v (SG, f) = if jz_in i 7 = true then some (SG, jz_up f 30 i.toNatClampNeg v) else none := by show (if 1 = 1 ∧ jz_in i 7 = true then _ else _) = _; simp only [true_and]
theorem gr_31_0 (f : Nat → Nat → Int32) : jz_gr 2 0 31 (SG, f) = some 32 := rfl
theorem gi_31_1 (f : Nat → Nat → Int32) : jz_gi 2 1 31 (SG, f) = some (f 31 1) := rfl
theorem pi_31_1 (f : Nat → Nat → Int32) (v : Int32) : jz_pi 2 1 31 v (SG, f) = some (SG, jz_up f 31 1 v) := rfl
theorem gi_31_2 (f : Nat → Nat → Int32) : jz_gi 2 2 31 (SG, f) = some (f 31 2) := rfl
theorem pi_31_2 (f : Nat → Nat → Int32) (v : Int32) : jz_pi 2 2 31 v (SG, f) = some (SG, jz_up f 31 2 v) := rfl
theorem io_31 (f : Nat → Nat → Int32) (n : Nat) (r : List Value) : jz_isO 2 n (.ref 31 :: r) (SG, f) = (r.length == n) := by show ((r.length == n) && true) = _; rw [Bool.and_true]
theorem ld_32 (f : Nat → Nat → Int32) (i : Int32) : jz_ld 1 32 i (SG, f) = if jz_in i 100 = true then some (f 32 i.toNatClampNeg) else none := by show (if 1 = 1 ∧ jz_in i 100 = true then _ else _) = _; simp only [true_and]
theorem st_32 (f : Nat → Nat → Int32) (i v : Int32) : jz_st 1 32 i v (SG, f) = if jz_in i 100 = true then some (SG, jz_up f 32 i.toNatClampNeg v) else none := by show (if 1 = 1 ∧ jz_in i 100 = true then _ else _) = _; simp only [true_and]
theorem gr_33_0 (f : Nat → Nat → Int32) : jz_gr 0 0 33 (SG, f) = some 18 := rfl
theorem gi_33_1 (f : Nat → Nat → Int32) : jz_gi 0 1 33 (SG, f) = some (f 33 1) := rfl
theorem pi_33_1 (f : Nat → Nat → Int32) (v : Int32) : jz_pi 0 1 33 v (SG, f) = some (SG, jz_up f 33 1 v) := rfl
theorem gi_33_2 (f : Nat → Nat → Int32) : jz_gi 0 2 33 (SG, f) = some (f 33 2) := rfl
theorem pi_33_2 (f : Nat → Nat → Int32) (v : Int32) : jz_pi 0 2 33 v (SG, f) = some (SG, jz_up f 33 2 v) := rfl
theorem gr_33_3 (f : Nat → Nat → Int32) : jz_gr 0 3 33 (SG, f) = some 34 := rfl
theorem gr_33_4 (f : Nat → Nat → Int32) : jz_gr 0 4 33 (SG, f) = some 35 := rfl
theorem gr_33_5 (f : Nat → Nat → Int32) : jz_gr 0 5 33 (SG, f) = some 36 := rfl
theorem gr_33_6 (f : Nat → Nat → Int32) : jz_gr 0 6 33 (SG, f) = some 37 := rfl
theorem gr_33_7 (f : Nat → Nat → Int32) : jz_gr 0 7 33 (SG, f) = some 38 := rfl
theorem gr_33_8 (f : Nat → Nat → Int32) : jz_gr 0 8 33 (SG, f) = some 39 := rfl
theorem gr_33_9 (f : Nat → Nat → Int32) : jz_gr 0 9 33 (SG, f) = some 40 := rfl
theorem gr_33_10 (f : Nat → Nat → Int32) : jz_gr 0 10 33 (SG, f) = some 41 := rfl
theorem gr_33_11 (f : Nat → Nat → Int32) : jz_gr 0 11 33 (SG, f) = some 42 := rfl
theorem gr_33_12 (f : Nat → Nat → Int32) : jz_gr 0 12 33 (SG, f) = some 43 := rfl
theorem io_33 (f : Nat → Nat → Int32) (n : Nat) (r : List Value) : jz_isO 0 n (.ref 33 :: r) (SG, f) = (r.length == n) := by show ((r.length == n) && true) = _; rw [Bool.and_true]
theorem ld_34 (f : Nat → Nat → Int32) (i : Int32) : jz_ld 1 34 i (SG, f) = if jz_in i 4 = true then some (f 34 i.toNatClampNeg) else none := by show (if 1 = 1 ∧ jz_in i 4 = true then _ else _) = _; simp only [true_and]
theorem st_34 (f : Nat → Nat → Int32) (i v : Int32) : jz_st 1 34 i v (SG, f) = if jz_in i 4 = true then some (SG, jz_up f 34 i.toNatClampNeg v) else none := by show (if 1 = 1 ∧ jz_in i 4 = true then _ else _) = _; simp only [true_and]
theorem ld_35 (f : Nat → Nat → Int32) (i : Int32) : jz_ld 1 35 i (SG, f) = if jz_in i 4 = true then some (f 35 i.toNatClampNeg) else none := by show (if 1 = 1 ∧ jz_in i 4 = true then _ else _) = _; simp only [true_and]
theorem st_35 (f : Nat → Nat → Int32) (i v : Int32) : jz_st 1 35 i v (SG, f) = if jz_in i 4 = true then some (SG, jz_up f 35 i.toNatClampNeg v) else none := by show (if 1 = 1 ∧ jz_in i 4 = true then _ else _) = _; simp only [true_and]
theorem ld_36 (f : Nat → Nat → Int32) (i : Int32) : jz_ld 1 36 i (SG, f) = if jz_in i 4 = true then some (f 36 i.toNatClampNeg) else none := by show (if 1 = 1 ∧ jz_in i 4 = true then _ else _) = _; simp only [true_and]
theorem st_36 (f : Nat → Nat → Int32) (i v : Int32) : jz_st 1 36 i v (SG, f) = if jz_in i 4 = true then some (SG, jz_up f 36 i.toNatClampNeg v) else none := by show (if 1 = 1 ∧ jz_in i 4 = true then _ else _) = _; simp only [true_and]
theorem ld_37 (f : Nat → Nat → Int32) (i : Int32) : jz_ld 1 37 i (SG, f) = if jz_in i 4 = true then some (f 37 i.toNatClampNeg) else none := by show (if 1 = 1 ∧ jz_in i 4 = true then _ else _) = _; simp only [true_and]
theorem st_37 (f : Nat → Nat → Int32) (i v : Int32) : jz_st 1 37 i v (SG, f) = if jz_in i 4 = true then some (SG, jz_up f 37 i.toNatClampNeg v) else none := by show (if 1 = 1 ∧ jz_in i 4 = true then _ else _) = _; simp only [true_and]
theorem ld_38 (f : Nat → Nat → Int32) (i : Int32) : jz_ld 1 38 i (SG, f) = if jz_in i 7 = true then some (f 38 i.toNatClampNeg) else none := by show (if 1 = 1 ∧ jz_in i 7 = true then _ else _) = _; simp only [true_and]
theorem st_38 (f : Nat → Nat → Int32) (i v : Int32) : jz_st 1 38 i v (SG, f) = if jz_in i 7 = true then some (SG, jz_up f 38 i.toNatClampNeg v) else none := by show (if 1 = 1 ∧ jz_in i 7 = true then _ else _) = _; simp only [true_and]
theorem ld_39 (f : Nat → Nat → Int32) (i : Int32) : jz_ld 1 39 i (SG, f) = if jz_in i 7 = true then some (f 39 i.toNatClampNeg) else none := by show (if 1 = 1 ∧ jz_in i 7 = true then _ else _) = _; simp only [true_and]
theorem st_39 (f : Nat → Nat → Int32) (i v : Int32) : jz_st 1 39 i v (SG, f) = if jz_in i 7 = true then some (SG, jz_up f 39 i.toNatClampNeg v) else none := by show (if 1 = 1 ∧ jz_in i 7 = true then _ else _) = _; simp only [true_and]
theorem ld_40 (f : Nat → Nat → Int32) (i : Int32) : jz_ld 1 40 i (SG, f) = if jz_in i 7 = true then some (f 40 i.toNatClampNeg) else none := by show (if 1 = 1 ∧ jz_in i 7 = true then _ else _) = _; simp only [true_and]
theorem st_40 (f : Nat → Nat → Int32) (i v : Int32) : jz_st 1 40 i v (SG, f) = if jz_in i 7 = true then some (SG, jz_up f 40 i.toNatClampNeg v) else none := by show (if 1 = 1 ∧ jz_in i 7 = true then _ else _) = _; simp only [true_and]
theorem ld_41 (f : Nat → Nat → Int32) (i : Int32) : jz_ld 1 41 i (SG, f) = if jz_in i 7 = true then some (f 41 i.toNatClampNeg) else none := by show (if 1 = 1 ∧ jz_in i 7 = true then _ else _) = _; simp only [true_and]
theorem st_41 (f : Nat → Nat → Int32) (i v : Int32) : jz_st 1 41 i v (SG, f) = if jz_in i 7 = true then some (SG, jz_up f 41 i.toNatClampNeg v) else none := by show (if 1 = 1 ∧ jz_in i 7 = true then _ else _) = _; simp only [true_and]
theorem ld_42 (f : Nat → Nat → Int32) (i : Int32) : jz_ld 1 42 i (SG, f) = if jz_in i 7 = true then some (f 42 i.toNatClampNeg) else none := by show (if 1 = 1 ∧ jz_in i 7 = true then _ else _) = _; simp only [true_and]
theorem st_42 (f : Nat → Nat → Int32) (i v : Int32) : jz_st 1 42 i v (SG, f) = if jz_in i 7 = true then some (SG, jz_up f 42 i.toNatClampNeg v) else none := by show (if 1 = 1 ∧ jz_in i 7 = true then _ else _) = _; simp only [true_and]
theorem gr_43_0 (f : Nat → Nat → Int32) : jz_gr 2 0 43 (SG, f) = some 44 := rfl
theorem gi_43_1 (f : Nat → Nat → Int32) : jz_gi 2 1 43 (SG, f) = some (f 43 1) := rfl
theorem pi_43_1 (f : Nat → Nat → Int32) (v : Int32) : jz_pi 2 1 43 v (SG, f) = some (SG, jz_up f 43 1 v) := rfl
theorem gi_43_2 (f : Nat → Nat → Int32) : jz_gi 2 2 43 (SG, f) = some (f 43 2) := rfl
theorem pi_43_2 (f : Nat → Nat → Int32) (v : Int32) : jz_pi 2 2 43 v (SG, f) = some (SG, jz_up f 43 2 v) := rfl
theorem io_43 (f : Nat → Nat → Int32) (n : Nat) (r : List Value) : jz_isO 2 n (.ref 43 :: r) (SG, f) = (r.length == n) := by show ((r.length == n) && true) = _; rw [Bool.and_true]
theorem ld_44 (f : Nat → Nat → Int32) (i : Int32) : jz_ld 1 44 i (SG, f) = if jz_in i 100 = true then some (f 44 i.toNatClampNeg) else none := by show (if 1 = 1 ∧ jz_in i 100 = true then _ else _) = _; simp only [true_and]
theorem st_44 (f : Nat → Nat → Int32) (i v : Int32) : jz_st 1 44 i v (SG, f) = if jz_in i 100 = true then some (SG, jz_up f 44 i.toNatClampNeg v) else none := by show (if 1 = 1 ∧ jz_in i 100 = true then _ else _) = _; simp only [true_and]
