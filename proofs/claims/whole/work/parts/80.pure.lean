theorem new_x (L : jz_L) : je_new 0 0 600000 7302250 8 0 jz_blX8 273 3881 MX8_init jg_nil L ([], fun _ _ => 0) = st_x := by
  unfold st_x
  simp only [je_new, ev_gnil]
theorem new_m (L : jz_L) (h : jz_H) : je_new 0 0 600000 7302250 9 0 jz_blX9 28 1872 MX9_init jg_nil L h = st_m h := by
  unfold st_m
  simp only [je_new, ev_gnil]
theorem sub5 {Ln : Nat} (h : Ln ≤ 2560) : (nI Ln - 5).toInt = (Ln : Int) - 5 := by
  rw [Int32.toInt_sub, nn_toInt (by omega)]
  show Int.bmod ((Ln : Int) - 5) (2 ^ 32) = _
  exact Int.bmod_eq_of_le (by omega) (by omega)
theorem arms_all {Ln i : Nat} {xs : Nat → Int32} {f : Nat → Nat → Int32} {σ : sp_st} (ho : StOK σ) (hx : RX f σ) (hm : RM f σ) (hi : i + 4 < Ln) (hL : Ln ≤ 2560) : ∀ k, k ≤ 32 → Turn ([(BL_arm0 Ln xs), (BL_arm1 Ln xs), (BL_arm2 Ln xs), (BL_arm3 Ln xs), (BL_arm4 Ln xs), (BL_arm5 Ln xs), (BL_arm6 Ln xs), (BL_arm7 Ln xs), (BL_arm8 Ln xs), (BL_arm9 Ln xs), (BL_arm10 Ln xs), (BL_arm11 Ln xs), (BL_arm12 Ln xs), (BL_arm13 Ln xs), (BL_arm14 Ln xs), (BL_arm15 Ln xs), (BL_arm16 Ln xs), (BL_arm17 Ln xs), (BL_arm18 Ln xs), (BL_arm19 Ln xs), (BL_arm20 Ln xs), (BL_arm21 Ln xs), (BL_arm22 Ln xs), (BL_arm23 Ln xs), (BL_arm24 Ln xs), (BL_arm25 Ln xs), (BL_arm26 Ln xs), (BL_arm27 Ln xs), (BL_arm28 Ln xs), (BL_arm29 Ln xs), (BL_arm30 Ln xs), (BL_arm31 Ln xs), (BL_arm32 Ln xs)].getD k js_skip) i f
  | 0, _ => arm_0 (xs := xs) ho hx hm hi hL
  | 1, _ => arm_1 (xs := xs) ho hx hm hi hL
  | 2, _ => arm_2 (xs := xs) ho hx hm hi hL
  | 3, _ => arm_3 (xs := xs) ho hx hm hi hL
  | 4, _ => arm_4 (xs := xs) ho hx hm hi hL
  | 5, _ => arm_5 (xs := xs) ho hx hm hi hL
  | 6, _ => arm_6 (xs := xs) ho hx hm hi hL
  | 7, _ => arm_7 (xs := xs) ho hx hm hi hL
  | 8, _ => arm_8 (xs := xs) ho hx hm hi hL
  | 9, _ => arm_9 (xs := xs) ho hx hm hi hL
  | 10, _ => arm_10 (xs := xs) ho hx hm hi hL
  | 11, _ => arm_11 (xs := xs) ho hx hm hi hL
  | 12, _ => arm_12 (xs := xs) ho hx hm hi hL
  | 13, _ => arm_13 (xs := xs) ho hx hm hi hL
  | 14, _ => arm_14 (xs := xs) ho hx hm hi hL
  | 15, _ => arm_15 (xs := xs) ho hx hm hi hL
  | 16, _ => arm_16 (xs := xs) ho hx hm hi hL
  | 17, _ => arm_17 (xs := xs) ho hx hm hi hL
  | 18, _ => arm_18 (xs := xs) ho hx hm hi hL
  | 19, _ => arm_19 (xs := xs) ho hx hm hi hL
  | 20, _ => arm_20 (xs := xs) ho hx hm hi hL
  | 21, _ => arm_21 (xs := xs) ho hx hm hi hL
  | 22, _ => arm_22 (xs := xs) ho hx hm hi hL
  | 23, _ => arm_23 (xs := xs) ho hx hm hi hL
  | 24, _ => arm_24 (xs := xs) ho hx hm hi hL
  | 25, _ => arm_25 (xs := xs) ho hx hm hi hL
  | 26, _ => arm_26 (xs := xs) ho hx hm hi hL
  | 27, _ => arm_27 (xs := xs) ho hx hm hi hL
  | 28, _ => arm_28 (xs := xs) ho hx hm hi hL
  | 29, _ => arm_29 (xs := xs) ho hx hm hi hL
  | 30, _ => arm_30 (xs := xs) ho hx hm hi hL
  | 31, _ => arm_31 (xs := xs) ho hx hm hi hL
  | 32, _ => arm_32 (xs := xs) ho hx hm hi hL
  | k + 33, h => absurd h (by omega)
/-- the law's meaning, over every script -/
theorem pure_law (Ln : Nat) (xs : Nat → Int32) (hL : Ln ≤ 2560) : ∃ h', BL_law Ln xs [some .null, none, none, none] ([], fun _ _ => 0) = some (.inr (some (.int 1), h')) := by
  obtain ⟨h1, ⟨S, f0⟩, e1, e2, e3, e4⟩ := start_is
  have e3' : S = SG := e3
  subst e3'
  have hx0 : RX f0 st_0 := RX_0 e4
  have hm0 : RM f0 st_0 := RM_0 e4
  clear e4
  have hle : ∀ m, m < 2147483648 → (nI m ≤ nI Ln - 5 ↔ m + 5 ≤ Ln) := fun m hm => by
    rw [Int32.le_iff_toInt_le, nn_toInt hm, sub5 hL]; omega
  have loop : ∃ L' h', js_while (je_bin jo_le (je_loc 3) (je_bin (· - ·) (je_scl Ln) (je_int (5)))) (js_seq (js_switch (0) (32) (je_bin (· &&& ·) (je_scr Ln xs (je_loc 3)) (je_int (63))) [(BL_arm0 Ln xs), (BL_arm1 Ln xs), (BL_arm2 Ln xs), (BL_arm3 Ln xs), (BL_arm4 Ln xs), (BL_arm5 Ln xs), (BL_arm6 Ln xs), (BL_arm7 Ln xs), (BL_arm8 Ln xs), (BL_arm9 Ln xs), (BL_arm10 Ln xs), (BL_arm11 Ln xs), (BL_arm12 Ln xs), (BL_arm13 Ln xs), (BL_arm14 Ln xs), (BL_arm15 Ln xs), (BL_arm16 Ln xs), (BL_arm17 Ln xs), (BL_arm18 Ln xs), (BL_arm19 Ln xs), (BL_arm20 Ln xs), (BL_arm21 Ln xs), (BL_arm22 Ln xs), (BL_arm23 Ln xs), (BL_arm24 Ln xs), (BL_arm25 Ln xs), (BL_arm26 Ln xs), (BL_arm27 Ln xs), (BL_arm28 Ln xs), (BL_arm29 Ln xs), (BL_arm30 Ln xs), (BL_arm31 Ln xs), (BL_arm32 Ln xs)] js_skip) (js_inc 3 (5))) 2000 (LW 0) (SG, f0) = some (.inl (L', h')) ∧ True := by
    refine for_ex (fun j L h => L = LW (5 * j) ∧ ∃ f σ, h = (SG, f) ∧ StOK σ ∧ RX f σ ∧ RM f σ) (Ln / 5) ⟨rfl, f0, st_0, rfl, st_0_ok, hx0, hm0⟩ (by omega) ?_ ?_
    · rintro j _ _ hj ⟨rfl, f, σ, rfl, ho, hx, hm⟩
      have hlt : nI (5 * j) ≤ nI Ln - 5 := (hle (5 * j) (by omega)).mpr (by omega)
      refine ⟨by simp only [ev_seq, ev_if, ev_ret, ev_retv, ev_skip, ev_pop, ev_puti, ev_putz, ev_updf, ev_st, ev_stz, ev_upda, ev_scall, ev_int, ev_lng, ev_bin, ev_un, ev_div, ev_ldiv, ev_fi, ev_fr, ev_ld, ev_lr, ev_and, ev_or, ev_not, ev_of, ev_ite, ev_gnil, ev_gcons, ev_call, Option.bind_some, ev_loc0, ev_seti0, ev_setr0, ev_inc0, ev_loc1, ev_seti1, ev_setr1, ev_inc1, ev_loc2, ev_seti2, ev_setr2, ev_inc2, ev_loc3, ev_seti3, ev_setr3, ev_inc3, ev_loc4, ev_seti4, ev_setr4, ev_inc4, ev_loc5, ev_seti5, ev_setr5, ev_inc5, ev_loc6, ev_seti6, ev_setr6, ev_inc6, ev_loc7, ev_seti7, ev_setr7, ev_inc7, ev_loc8, ev_seti8, ev_setr8, ev_inc8, ev_lor0, ev_lor1, ev_lor2, ev_lor3, ev_isS, ok_same, List.length_cons, List.length_nil, Nat.zero_add, Nat.reduceAdd, BEq.rfl, if_true, io_274, jo_lt, jo_le, jo_gt, jo_ge, jo_eq, jo_ne, ent_1_1, ent_2_1, ent_2_2, ent_3_1, ent_3_2, ent_3_3, ent_4_1, ent_4_2, ent_4_3, ent_4_4, ent_5_1, ent_5_2, ent_5_3, ent_5_4, ent_5_5, ent_6_1, ent_6_2, ent_6_3, ent_6_4, ent_6_5, ent_6_6, ent_7_1, ent_7_2, ent_7_3, ent_7_4, ent_7_5, ent_7_6, ent_8_1, ent_8_2, ent_8_3, ent_8_4, ent_8_5, ent_8_6, ent_9_1, ent_9_2, ent_9_3, ent_9_4, ent_9_5, ent_9_6, if_false, decide_true, decide_false, Bool.false_eq_true, and_self, and_true, true_and, and_false, false_and, or_true, true_or, or_false, false_or, decide_eq_true_eq, not_true_eq_false, not_false_eq_true, jo_b_dec, Bool.not_true, Bool.not_false, ev_scl, hlt], ?_⟩
      have tn : Turn (js_switch (0) (32) (je_bin (· &&& ·) (je_scr Ln xs (je_loc 3)) (je_int (63))) [(BL_arm0 Ln xs), (BL_arm1 Ln xs), (BL_arm2 Ln xs), (BL_arm3 Ln xs), (BL_arm4 Ln xs), (BL_arm5 Ln xs), (BL_arm6 Ln xs), (BL_arm7 Ln xs), (BL_arm8 Ln xs), (BL_arm9 Ln xs), (BL_arm10 Ln xs), (BL_arm11 Ln xs), (BL_arm12 Ln xs), (BL_arm13 Ln xs), (BL_arm14 Ln xs), (BL_arm15 Ln xs), (BL_arm16 Ln xs), (BL_arm17 Ln xs), (BL_arm18 Ln xs), (BL_arm19 Ln xs), (BL_arm20 Ln xs), (BL_arm21 Ln xs), (BL_arm22 Ln xs), (BL_arm23 Ln xs), (BL_arm24 Ln xs), (BL_arm25 Ln xs), (BL_arm26 Ln xs), (BL_arm27 Ln xs), (BL_arm28 Ln xs), (BL_arm29 Ln xs), (BL_arm30 Ln xs), (BL_arm31 Ln xs), (BL_arm32 Ln xs)] js_skip) (5 * j) f := by
        have ex : (je_bin (· &&& ·) (je_scr Ln xs (je_loc 3)) (je_int (63))) (LW (5 * j)) (SG, f) = some (xs (5 * j) &&& 63, (SG, f)) := by
          simp only [ev_seq, ev_if, ev_ret, ev_retv, ev_skip, ev_pop, ev_puti, ev_putz, ev_updf, ev_st, ev_stz, ev_upda, ev_scall, ev_int, ev_lng, ev_bin, ev_un, ev_div, ev_ldiv, ev_fi, ev_fr, ev_ld, ev_lr, ev_and, ev_or, ev_not, ev_of, ev_ite, ev_gnil, ev_gcons, ev_call, Option.bind_some, ev_loc0, ev_seti0, ev_setr0, ev_inc0, ev_loc1, ev_seti1, ev_setr1, ev_inc1, ev_loc2, ev_seti2, ev_setr2, ev_inc2, ev_loc3, ev_seti3, ev_setr3, ev_inc3, ev_loc4, ev_seti4, ev_setr4, ev_inc4, ev_loc5, ev_seti5, ev_setr5, ev_inc5, ev_loc6, ev_seti6, ev_setr6, ev_inc6, ev_loc7, ev_seti7, ev_setr7, ev_inc7, ev_loc8, ev_seti8, ev_setr8, ev_inc8, ev_lor0, ev_lor1, ev_lor2, ev_lor3, ev_isS, ok_same, List.length_cons, List.length_nil, Nat.zero_add, Nat.reduceAdd, BEq.rfl, if_true, io_274, jo_lt, jo_le, jo_gt, jo_ge, jo_eq, jo_ne, ent_1_1, ent_2_1, ent_2_2, ent_3_1, ent_3_2, ent_3_3, ent_4_1, ent_4_2, ent_4_3, ent_4_4, ent_5_1, ent_5_2, ent_5_3, ent_5_4, ent_5_5, ent_6_1, ent_6_2, ent_6_3, ent_6_4, ent_6_5, ent_6_6, ent_7_1, ent_7_2, ent_7_3, ent_7_4, ent_7_5, ent_7_6, ent_8_1, ent_8_2, ent_8_3, ent_8_4, ent_8_5, ent_8_6, ent_9_1, ent_9_2, ent_9_3, ent_9_4, ent_9_5, ent_9_6, if_false, decide_true, decide_false, Bool.false_eq_true, and_self, and_true, true_and, and_false, false_and, or_true, true_or, or_false, false_or, decide_eq_true_eq, not_true_eq_false, not_false_eq_true, jo_b_dec, Bool.not_true, Bool.not_false, ev_scr, nn_in (show 5 * j < Ln by omega) (show Ln < 2147483648 by omega), nn_clamp (show 5 * j < 2147483648 by omega)]
        unfold Turn
        rw [ev_switch, ex, Option.bind_some]
        rcases sw_cases (xs (5 * j) &&& 63) 32 with h | ⟨k, hk, e⟩
        · have h' : (xs (5 * j) &&& 63).toInt < 0 ∨ 32 < (xs (5 * j) &&& 63).toInt := h
          exact ⟨f, by rw [sw_out h']; rfl, σ, ho, hx, hm⟩
        · have t := arms_all (xs := xs) ho hx hm (show 5 * j + 4 < Ln by omega) hL k hk
          unfold Turn at t
          have ek : jz_sw 0 32 [(BL_arm0 Ln xs), (BL_arm1 Ln xs), (BL_arm2 Ln xs), (BL_arm3 Ln xs), (BL_arm4 Ln xs), (BL_arm5 Ln xs), (BL_arm6 Ln xs), (BL_arm7 Ln xs), (BL_arm8 Ln xs), (BL_arm9 Ln xs), (BL_arm10 Ln xs), (BL_arm11 Ln xs), (BL_arm12 Ln xs), (BL_arm13 Ln xs), (BL_arm14 Ln xs), (BL_arm15 Ln xs), (BL_arm16 Ln xs), (BL_arm17 Ln xs), (BL_arm18 Ln xs), (BL_arm19 Ln xs), (BL_arm20 Ln xs), (BL_arm21 Ln xs), (BL_arm22 Ln xs), (BL_arm23 Ln xs), (BL_arm24 Ln xs), (BL_arm25 Ln xs), (BL_arm26 Ln xs), (BL_arm27 Ln xs), (BL_arm28 Ln xs), (BL_arm29 Ln xs), (BL_arm30 Ln xs), (BL_arm31 Ln xs), (BL_arm32 Ln xs)] js_skip (nI k) = [(BL_arm0 Ln xs), (BL_arm1 Ln xs), (BL_arm2 Ln xs), (BL_arm3 Ln xs), (BL_arm4 Ln xs), (BL_arm5 Ln xs), (BL_arm6 Ln xs), (BL_arm7 Ln xs), (BL_arm8 Ln xs), (BL_arm9 Ln xs), (BL_arm10 Ln xs), (BL_arm11 Ln xs), (BL_arm12 Ln xs), (BL_arm13 Ln xs), (BL_arm14 Ln xs), (BL_arm15 Ln xs), (BL_arm16 Ln xs), (BL_arm17 Ln xs), (BL_arm18 Ln xs), (BL_arm19 Ln xs), (BL_arm20 Ln xs), (BL_arm21 Ln xs), (BL_arm22 Ln xs), (BL_arm23 Ln xs), (BL_arm24 Ln xs), (BL_arm25 Ln xs), (BL_arm26 Ln xs), (BL_arm27 Ln xs), (BL_arm28 Ln xs), (BL_arm29 Ln xs), (BL_arm30 Ln xs), (BL_arm31 Ln xs), (BL_arm32 Ln xs)].getD k js_skip := sw_in (by omega) (by omega)
          show ∃ f', jz_sw 0 32 [(BL_arm0 Ln xs), (BL_arm1 Ln xs), (BL_arm2 Ln xs), (BL_arm3 Ln xs), (BL_arm4 Ln xs), (BL_arm5 Ln xs), (BL_arm6 Ln xs), (BL_arm7 Ln xs), (BL_arm8 Ln xs), (BL_arm9 Ln xs), (BL_arm10 Ln xs), (BL_arm11 Ln xs), (BL_arm12 Ln xs), (BL_arm13 Ln xs), (BL_arm14 Ln xs), (BL_arm15 Ln xs), (BL_arm16 Ln xs), (BL_arm17 Ln xs), (BL_arm18 Ln xs), (BL_arm19 Ln xs), (BL_arm20 Ln xs), (BL_arm21 Ln xs), (BL_arm22 Ln xs), (BL_arm23 Ln xs), (BL_arm24 Ln xs), (BL_arm25 Ln xs), (BL_arm26 Ln xs), (BL_arm27 Ln xs), (BL_arm28 Ln xs), (BL_arm29 Ln xs), (BL_arm30 Ln xs), (BL_arm31 Ln xs), (BL_arm32 Ln xs)] js_skip (xs (5 * j) &&& 63) (LW (5 * j)) (SG, f) = _ ∧ _
          rw [e, ek]
          exact t
      obtain ⟨f', t1, σ', t2, t3, t4⟩ := tn
      have en : nI (5 * j) + 5 = nI (5 * (j + 1)) := by
        have : nI (5 * j) + 5 = nI (5 * j + 5) := nn_add (5 * j) 5
        rw [this]; rfl
      refine ⟨LW (5 * (j + 1)), (SG, f'), seq_some _ _ t1 ?_, rfl, f', σ', rfl, t2, t3, t4⟩
      simp only [ev_seq, ev_if, ev_ret, ev_retv, ev_skip, ev_pop, ev_puti, ev_putz, ev_updf, ev_st, ev_stz, ev_upda, ev_scall, ev_int, ev_lng, ev_bin, ev_un, ev_div, ev_ldiv, ev_fi, ev_fr, ev_ld, ev_lr, ev_and, ev_or, ev_not, ev_of, ev_ite, ev_gnil, ev_gcons, ev_call, Option.bind_some, ev_loc0, ev_seti0, ev_setr0, ev_inc0, ev_loc1, ev_seti1, ev_setr1, ev_inc1, ev_loc2, ev_seti2, ev_setr2, ev_inc2, ev_loc3, ev_seti3, ev_setr3, ev_inc3, ev_loc4, ev_seti4, ev_setr4, ev_inc4, ev_loc5, ev_seti5, ev_setr5, ev_inc5, ev_loc6, ev_seti6, ev_setr6, ev_inc6, ev_loc7, ev_seti7, ev_setr7, ev_inc7, ev_loc8, ev_seti8, ev_setr8, ev_inc8, ev_lor0, ev_lor1, ev_lor2, ev_lor3, ev_isS, ok_same, List.length_cons, List.length_nil, Nat.zero_add, Nat.reduceAdd, BEq.rfl, if_true, io_274, jo_lt, jo_le, jo_gt, jo_ge, jo_eq, jo_ne, ent_1_1, ent_2_1, ent_2_2, ent_3_1, ent_3_2, ent_3_3, ent_4_1, ent_4_2, ent_4_3, ent_4_4, ent_5_1, ent_5_2, ent_5_3, ent_5_4, ent_5_5, ent_6_1, ent_6_2, ent_6_3, ent_6_4, ent_6_5, ent_6_6, ent_7_1, ent_7_2, ent_7_3, ent_7_4, ent_7_5, ent_7_6, ent_8_1, ent_8_2, ent_8_3, ent_8_4, ent_8_5, ent_8_6, ent_9_1, ent_9_2, ent_9_3, ent_9_4, ent_9_5, ent_9_6, if_false, decide_true, decide_false, Bool.false_eq_true, and_self, and_true, true_and, and_false, false_and, or_true, true_or, or_false, false_or, decide_eq_true_eq, not_true_eq_false, not_false_eq_true, jo_b_dec, Bool.not_true, Bool.not_false, en]
    · rintro _ _ ⟨rfl, f, σ, rfl, ho, hx, hm⟩
      have hlt : ¬ nI (5 * (Ln / 5)) ≤ nI Ln - 5 := fun h => by
        have := (hle (5 * (Ln / 5)) (by omega)).mp h
        omega
      exact ⟨by simp only [ev_seq, ev_if, ev_ret, ev_retv, ev_skip, ev_pop, ev_puti, ev_putz, ev_updf, ev_st, ev_stz, ev_upda, ev_scall, ev_int, ev_lng, ev_bin, ev_un, ev_div, ev_ldiv, ev_fi, ev_fr, ev_ld, ev_lr, ev_and, ev_or, ev_not, ev_of, ev_ite, ev_gnil, ev_gcons, ev_call, Option.bind_some, ev_loc0, ev_seti0, ev_setr0, ev_inc0, ev_loc1, ev_seti1, ev_setr1, ev_inc1, ev_loc2, ev_seti2, ev_setr2, ev_inc2, ev_loc3, ev_seti3, ev_setr3, ev_inc3, ev_loc4, ev_seti4, ev_setr4, ev_inc4, ev_loc5, ev_seti5, ev_setr5, ev_inc5, ev_loc6, ev_seti6, ev_setr6, ev_inc6, ev_loc7, ev_seti7, ev_setr7, ev_inc7, ev_loc8, ev_seti8, ev_setr8, ev_inc8, ev_lor0, ev_lor1, ev_lor2, ev_lor3, ev_isS, ok_same, List.length_cons, List.length_nil, Nat.zero_add, Nat.reduceAdd, BEq.rfl, if_true, io_274, jo_lt, jo_le, jo_gt, jo_ge, jo_eq, jo_ne, ent_1_1, ent_2_1, ent_2_2, ent_3_1, ent_3_2, ent_3_3, ent_4_1, ent_4_2, ent_4_3, ent_4_4, ent_5_1, ent_5_2, ent_5_3, ent_5_4, ent_5_5, ent_6_1, ent_6_2, ent_6_3, ent_6_4, ent_6_5, ent_6_6, ent_7_1, ent_7_2, ent_7_3, ent_7_4, ent_7_5, ent_7_6, ent_8_1, ent_8_2, ent_8_3, ent_8_4, ent_8_5, ent_8_6, ent_9_1, ent_9_2, ent_9_3, ent_9_4, ent_9_5, ent_9_6, if_false, decide_true, decide_false, Bool.false_eq_true, and_self, and_true, true_and, and_false, false_and, or_true, true_or, or_false, false_or, decide_eq_true_eq, not_true_eq_false, not_false_eq_true, jo_b_dec, Bool.not_true, Bool.not_false, ev_scl, hlt], trivial⟩
  obtain ⟨L', h', w, _⟩ := loop
  refine ⟨h', ?_⟩
  unfold BL_law
  refine seq_some [some .null, some (.ref 0), none, none] h1 (by rw [ev_setr1, new_x, e1, Option.bind_some]) ?_
  refine seq_some [some .null, some (.ref 0), some (.ref 274), none] (SG, f0) (by rw [ev_setr2, new_m, e2, Option.bind_some]) ?_
  refine seq_some L' h' (seq_some (LW 0) (SG, f0) rfl w) ?_
  simp only [ev_seq, ev_if, ev_ret, ev_retv, ev_skip, ev_pop, ev_puti, ev_putz, ev_updf, ev_st, ev_stz, ev_upda, ev_scall, ev_int, ev_lng, ev_bin, ev_un, ev_div, ev_ldiv, ev_fi, ev_fr, ev_ld, ev_lr, ev_and, ev_or, ev_not, ev_of, ev_ite, ev_gnil, ev_gcons, ev_call, Option.bind_some, ev_loc0, ev_seti0, ev_setr0, ev_inc0, ev_loc1, ev_seti1, ev_setr1, ev_inc1, ev_loc2, ev_seti2, ev_setr2, ev_inc2, ev_loc3, ev_seti3, ev_setr3, ev_inc3, ev_loc4, ev_seti4, ev_setr4, ev_inc4, ev_loc5, ev_seti5, ev_setr5, ev_inc5, ev_loc6, ev_seti6, ev_setr6, ev_inc6, ev_loc7, ev_seti7, ev_setr7, ev_inc7, ev_loc8, ev_seti8, ev_setr8, ev_inc8, ev_lor0, ev_lor1, ev_lor2, ev_lor3, ev_isS, ok_same, List.length_cons, List.length_nil, Nat.zero_add, Nat.reduceAdd, BEq.rfl, if_true, io_274, jo_lt, jo_le, jo_gt, jo_ge, jo_eq, jo_ne, ent_1_1, ent_2_1, ent_2_2, ent_3_1, ent_3_2, ent_3_3, ent_4_1, ent_4_2, ent_4_3, ent_4_4, ent_5_1, ent_5_2, ent_5_3, ent_5_4, ent_5_5, ent_6_1, ent_6_2, ent_6_3, ent_6_4, ent_6_5, ent_6_6, ent_7_1, ent_7_2, ent_7_3, ent_7_4, ent_7_5, ent_7_6, ent_8_1, ent_8_2, ent_8_3, ent_8_4, ent_8_5, ent_8_6, ent_9_1, ent_9_2, ent_9_3, ent_9_4, ent_9_5, ent_9_6, if_false, decide_true, decide_false, Bool.false_eq_true, and_self, and_true, true_and, and_false, false_and, or_true, true_or, or_false, false_or, decide_eq_true_eq, not_true_eq_false, not_false_eq_true, jo_b_dec, Bool.not_true, Bool.not_false]
