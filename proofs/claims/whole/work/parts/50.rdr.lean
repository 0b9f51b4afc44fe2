/-! READER: its cells -/
theorem gr_6_0 (f : Nat → Nat → Int32) : jz_gr 0 0 6 (SG, f) = some 3 := rfl
theorem gr_6_3 (f : Nat → Nat → Int32) : jz_gr 0 3 6 (SG, f) = some 7 := rfl
theorem gr_6_4 (f : Nat → Nat → Int32) : jz_gr 0 4 6 (SG, f) = some 8 := rfl
theorem gr_6_5 (f : Nat → Nat → Int32) : jz_gr 0 5 6 (SG, f) = some 9 := rfl
theorem gr_6_6 (f : Nat → Nat → Int32) : jz_gr 0 6 6 (SG, f) = some 10 := rfl
theorem gr_6_7 (f : Nat → Nat → Int32) : jz_gr 0 7 6 (SG, f) = some 11 := rfl
theorem gr_6_8 (f : Nat → Nat → Int32) : jz_gr 0 8 6 (SG, f) = some 12 := rfl
theorem gr_6_9 (f : Nat → Nat → Int32) : jz_gr 0 9 6 (SG, f) = some 13 := rfl
theorem gr_6_10 (f : Nat → Nat → Int32) : jz_gr 0 10 6 (SG, f) = some 14 := rfl
theorem gr_6_11 (f : Nat → Nat → Int32) : jz_gr 0 11 6 (SG, f) = some 15 := rfl
theorem gr_6_12 (f : Nat → Nat → Int32) : jz_gr 0 12 6 (SG, f) = some 16 := rfl
theorem gi_6_1 (f : Nat → Nat → Int32) : jz_gi 0 1 6 (SG, f) = some (f 6 1) := rfl
theorem pi_6_1 (f : Nat → Nat → Int32) (v : Int32) : jz_pi 0 1 6 v (SG, f) = some (SG, jz_up f 6 1 v) := rfl
theorem gi_6_2 (f : Nat → Nat → Int32) : jz_gi 0 2 6 (SG, f) = some (f 6 2) := rfl
theorem pi_6_2 (f : Nat → Nat → Int32) (v : Int32) : jz_pi 0 2 6 v (SG, f) = some (SG, jz_up f 6 2 v) := rfl
theorem io_6 (f : Nat → Nat → Int32) (n : Nat) (r : List Value) : jz_isO 0 n (.ref 6 :: r) (SG, f) = (r.length == n) := by show ((r.length == n) && true) = _; rw [Bool.and_true]
theorem ld_7 (f : Nat → Nat → Int32) (i : Int32) : jz_ld 1 7 i (SG, f) = if jz_in i 4 = true then some (f 7 i.toNatClampNeg) else none := by show (if 1 = 1 ∧ jz_in i 4 = true then _ else _) = _; simp only [true_and]
theorem st_7 (f : Nat → Nat → Int32) (i v : Int32) : jz_st 1 7 i v (SG, f) = if jz_in i 4 = true then some (SG, jz_up f 7 i.toNatClampNeg v) else none := by show (if 1 = 1 ∧ jz_in i 4 = true then _ else _) = _; simp only [true_and]
theorem ld_8 (f : Nat → Nat → Int32) (i : Int32) : jz_ld 1 8 i (SG, f) = if jz_in i 4 = true then some (f 8 i.toNatClampNeg) else none := by show (if 1 = 1 ∧ jz_in i 4 = true then _ else _) = _; simp only [true_and]
theorem st_8 (f : Nat → Nat → Int32) (i v : Int32) : jz_st 1 8 i v (SG, f) = if jz_in i 4 = true then some (SG, jz_up f 8 i.toNatClampNeg v) else none := by show (if 1 = 1 ∧ jz_in i 4 = true then _ else _) = _; simp only [true_and]
theorem ld_9 (f : Nat → Nat → Int32) (i : Int32) : jz_ld 1 9 i (SG, f) = if jz_in i 4 = true then some (f 9 i.toNatClampNeg) else none := by show (if 1 = 1 ∧ jz_in i 4 = true then _ else _) = _; simp only [true_and]
theorem st_9 (f : Nat → Nat → Int32) (i v : Int32) : jz_st 1 9 i v (SG, f) = if jz_in i 4 = true then some (SG, jz_up f 9 i.toNatClampNeg v) else none := by show (if 1 = 1 ∧ jz_in i 4 = true then _ else _) = _; simp only [true_and]
theorem ld_10 (f : Nat → Nat → Int32) (i : Int32) : jz_ld 1 10 i (SG, f) = if jz_in i 4 = true then some (f 10 i.toNatClampNeg) else none := by show (if 1 = 1 ∧ jz_in i 4 = true then _ else _) = _; simp only [true_and]
theorem st_10 (f : Nat → Nat → Int32) (i v : Int32) : jz_st 1 10 i v (SG, f) = if jz_in i 4 = true then some (SG, jz_up f 10 i.toNatClampNeg v) else none := by show (if 1 = 1 ∧ jz_in i 4 = true then _ else _) = _; simp only [true_and]
theorem ld_11 (f : Nat → Nat → Int32) (i : Int32) : jz_ld 1 11 i (SG, f) = if jz_in i 7 = true then some (f 11 i.toNatClampNeg) else none := by show (if 1 = 1 ∧ jz_in i 7 = true then _ else _) = _; simp only [true_and]
theorem st_11 (f : Nat → Nat → Int32) (i v : Int32) : jz_st 1 11 i v (SG, f) = if jz_in i 7 = true then some (SG, jz_up f 11 i.toNatClampNeg v) else none := by show (if 1 = 1 ∧ jz_in i 7 = true then _ else _) = _; simp only [true_and]
theorem ld_12 (f : Nat → Nat → Int32) (i : Int32) : jz_ld 1 12 i (SG, f) = if jz_in i 7 = true then some (f 12 i.toNatClampNeg) else none := by show (if 1 = 1 ∧ jz_in i 7 = true then _ else _) = _; simp only [true_and]
theorem st_12 (f : Nat → Nat → Int32) (i v : Int32) : jz_st 1 12 i v (SG, f) = if jz_in i 7 = true then some (SG, jz_up f 12 i.toNatClampNeg v) else none := by show (if 1 = 1 ∧ jz_in i 7 = true then _ else _) = _; simp only [true_and]
theorem ld_13 (f : Nat → Nat → Int32) (i : Int32) : jz_ld 1 13 i (SG, f) = if jz_in i 7 = true then some (f 13 i.toNatClampNeg) else none := by show (if 1 = 1 ∧ jz_in i 7 = true then _ else _) = _; simp only [true_and]
theorem st_13 (f : Nat → Nat → Int32) (i v : Int32) : jz_st 1 13 i v (SG, f) = if jz_in i 7 = true then some (SG, jz_up f 13 i.toNatClampNeg v) else none := by show (if 1 = 1 ∧ jz_in i 7 = true then _ else _) = _; simp only [true_and]
theorem ld_14 (f : Nat → Nat → Int32) (i : Int32) : jz_ld 1 14 i (SG, f) = if jz_in i 7 = true then some (f 14 i.toNatClampNeg) else none := by show (if 1 = 1 ∧ jz_in i 7 = true then _ else _) = _; simp only [true_and]
theorem st_14 (f : Nat → Nat → Int32) (i v : Int32) : jz_st 1 14 i v (SG, f) = if jz_in i 7 = true then some (SG, jz_up f 14 i.toNatClampNeg v) else none := by show (if 1 = 1 ∧ jz_in i 7 = true then _ else _) = _; simp only [true_and]
theorem ld_15 (f : Nat → Nat → Int32) (i : Int32) : jz_ld 1 15 i (SG, f) = if jz_in i 7 = true then some (f 15 i.toNatClampNeg) else none := by show (if 1 = 1 ∧ jz_in i 7 = true then _ else _) = _; simp only [true_and]
theorem st_15 (f : Nat → Nat → Int32) (i v : Int32) : jz_st 1 15 i v (SG, f) = if jz_in i 7 = true then some (SG, jz_up f 15 i.toNatClampNeg v) else none := by show (if 1 = 1 ∧ jz_in i 7 = true then _ else _) = _; simp only [true_and]
theorem up_up {f : Nat → Nat → Int32} {a k : Nat} {x y : Int32} : jz_up (jz_up f a k x) a k y = jz_up f a k y := by
  funext z i
  rw [cell_ite, cell_ite, cell_ite]
  split <;> rfl
theorem up_self {f : Nat → Nat → Int32} {a k : Nat} {x : Int32} (h : f a k = x) : jz_up f a k x = f := by rw [← h]; exact up_id
/-! the text, as it is read -/
def rd_go (P : Nat → Bool) : Nat → Nat → Nat
  | 0, p => p
  | k + 1, p => if P p = true then rd_go P k (p + 1) else p
theorem go_spec {P : Nat → Bool} {n : Nat} (hP : ∀ j, P j = true → j < n) : ∀ k p, n ≤ p + k → p ≤ rd_go P k p ∧ (p ≤ n → rd_go P k p ≤ n) ∧ (∀ j, p ≤ j → j < rd_go P k p → P j = true) ∧ P (rd_go P k p) = false
  | 0, p, h => by
    refine ⟨Nat.le_refl p, fun h => h, fun j h1 h2 => absurd h2 (by show ¬ j < p; omega), ?_⟩
    show P p = false
    cases hp : P p with
    | false => rfl
    | true => exact absurd (hP p hp) (by omega)
  | k + 1, p, h => by
    unfold rd_go
    cases hp : P p with
    | true =>
      rw [if_pos rfl]
      obtain ⟨h1, h2, h3, h4⟩ := go_spec hP k (p + 1) (by omega)
      refine ⟨by omega, fun _ => h2 (hP p hp), fun j h5 h6 => ?_, h4⟩
      by_cases e : j = p
      · rw [e]; exact hp
      · exact h3 j (by omega) h6
    | false =>
      rw [if_neg (by decide)]
      exact ⟨Nat.le_refl p, fun h => h, fun j h1 h2 => absurd h2 (by omega), hp⟩
def rd_bl (t : Nat → Nat) (n : Nat) (j : Nat) : Bool := decide (j < n ∧ t j = 32)
def rd_fg (t : Nat → Nat) (n : Nat) (j : Nat) : Bool := decide (j < n ∧ 48 ≤ t j ∧ t j ≤ 57)
def rd_sk (t : Nat → Nat) (n p : Nat) : Nat := rd_go (rd_bl t n) n p
def rd_fe (t : Nat → Nat) (n p : Nat) : Nat := rd_go (rd_fg t n) n p
theorem sk_spec (t : Nat → Nat) {n p : Nat} : p ≤ rd_sk t n p ∧ (p ≤ n → rd_sk t n p ≤ n) ∧ (∀ j, p ≤ j → j < rd_sk t n p → rd_bl t n j = true) ∧ rd_bl t n (rd_sk t n p) = false := go_spec (fun j h => (of_decide_eq_true h).1) n p (by omega)
theorem fe_spec (t : Nat → Nat) {n p : Nat} : p ≤ rd_fe t n p ∧ (p ≤ n → rd_fe t n p ≤ n) ∧ (∀ j, p ≤ j → j < rd_fe t n p → rd_fg t n j = true) ∧ rd_fg t n (rd_fe t n p) = false := go_spec (fun j h => (of_decide_eq_true h).1) n p (by omega)
def rd_val (t : Nat → Nat) (q : Nat) : Nat → Nat
  | 0 => 0
  | i + 1 => 10 * rd_val t q i + (t (q + i) - 48)
theorem val_le {t : Nat → Nat} {q : Nat} : ∀ i, (∀ j, j < i → t (q + j) ≤ 57) → rd_val t q i + 1 ≤ 10 ^ i
  | 0, _ => Nat.le_refl 1
  | i + 1, h => by
    have h1 := val_le i (fun j hj => h j (by omega))
    have h2 := h i (by omega)
    unfold rd_val
    rw [Nat.pow_succ]
    omega
abbrev rd_R : Type := Sum (Nat × Nat) Nat
def rd_num (t : Nat → Nat) (n p lo hi : Nat) : Sum (Nat × Nat) (Nat × Nat) :=
  if rd_fg t n (rd_sk t n p) = false then .inl (1, rd_sk t n p)
  else if 3 < rd_fe t n (rd_sk t n p) - rd_sk t n p ∨ rd_val t (rd_sk t n p) (rd_fe t n (rd_sk t n p) - rd_sk t n p) < lo ∨ hi < rd_val t (rd_sk t n p) (rd_fe t n (rd_sk t n p) - rd_sk t n p) then .inl (2, rd_sk t n p)
  else .inr (rd_val t (rd_sk t n p) (rd_fe t n (rd_sk t n p) - rd_sk t n p), rd_fe t n (rd_sk t n p))
def rd_nx (t : Nat → Nat) (n : Nat) (s : rd_R) (lo hi : Nat) : Nat × rd_R := match s with
  | .inl e => (0, .inl e)
  | .inr p => match rd_num t n p lo hi with
    | .inl e => (0, .inl e)
    | .inr x => (x.1, .inr x.2)
theorem num_ok {t : Nat → Nat} {n p lo hi : Nat} {x : Nat × Nat} (h : rd_num t n p lo hi = .inr x) : lo ≤ x.1 ∧ x.1 ≤ hi ∧ (p ≤ n → x.2 ≤ n) := by
  unfold rd_num at h
  split at h
  · cases h
  · split at h
    · cases h
    · next h3 =>
      cases h
      refine ⟨?_, ?_, fun hp => (fe_spec t).2.1 ((sk_spec t).2.1 hp)⟩
      · show lo ≤ rd_val _ _ _
        omega
      · show rd_val _ _ _ ≤ hi
        omega
theorem nx_l {t : Nat → Nat} {n p lo hi : Nat} {e : Nat × Nat} (h : rd_num t n p lo hi = .inl e) : rd_nx t n (.inr p) lo hi = (0, .inl e) := by
  unfold rd_nx
  simp only [h]
theorem nx_r {t : Nat → Nat} {n p lo hi : Nat} {x : Nat × Nat} (h : rd_num t n p lo hi = .inr x) : rd_nx t n (.inr p) lo hi = (x.1, .inr x.2) := by
  unfold rd_nx
  simp only [h]
/-- a number that was read is within its bounds -/
theorem nx_in {t : Nat → Nat} {n lo hi p' : Nat} {s : rd_R} (h : (rd_nx t n s lo hi).2 = .inr p') : lo ≤ (rd_nx t n s lo hi).1 ∧ (rd_nx t n s lo hi).1 ≤ hi := by
  cases s with
  | inl e => cases h
  | inr p =>
    cases h2 : rd_num t n p lo hi with
    | inl e => rw [nx_l h2] at h; cases h
    | inr x => rw [nx_r h2]; exact ⟨(num_ok h2).1, (num_ok h2).2.1⟩
theorem nx_val {t : Nat → Nat} {n lo hi : Nat} {s : rd_R} : (rd_nx t n s lo hi).1 ≤ hi := by
  cases s with
  | inl e => exact Nat.zero_le _
  | inr p =>
    cases h2 : rd_num t n p lo hi with
    | inl e => rw [nx_l h2]; exact Nat.zero_le _
    | inr x => rw [nx_r h2]; exact (num_ok h2).2.1
theorem nx_le {t : Nat → Nat} {n lo hi p' : Nat} {s : rd_R} (hs : ∀ p, s = .inr p → p ≤ n) (h : (rd_nx t n s lo hi).2 = .inr p') : p' ≤ n := by
  cases s with
  | inl e => cases h
  | inr p =>
    cases h2 : rd_num t n p lo hi with
    | inl e => rw [nx_l h2] at h; cases h
    | inr x =>
      rw [nx_r h2] at h
      cases h
      exact (num_ok h2).2.2 (hs p rfl)
theorem nx_from {t : Nat → Nat} {n lo hi p' : Nat} {s : rd_R} (h : (rd_nx t n s lo hi).2 = .inr p') : ∃ p, s = .inr p := by
  cases s with
  | inl e => cases h
  | inr p => exact ⟨p, rfl⟩
/-! the class reads -/
def XT (f : Nat → Nat → Int32) (t : Nat → Nat) (n : Nat) : Prop := n ≤ 240 ∧ (∀ j, t j < 256) ∧ ∀ j, j < n → f 2 j = nI (t j)
