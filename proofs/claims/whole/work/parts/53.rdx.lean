section
variable {f : Nat → Nat → Int32} {t : Nat → Nat} {n : Nat}
/-- the booking -/
def rd_bo (t : Nat → Nat) (n nc : Nat) (s : rd_R) : Int32 × rd_R := match s with
  | .inl e => (0, .inl e)
  | .inr p => match rd_num t n p 0 9 with
    | .inl e => (0, .inl e)
    | .inr x => if x.1 = 9 then (-1, .inr x.2) else if nc ≤ x.1 then (nI x.1, .inl (2, rd_sk t n p)) else (nI x.1, .inr x.2)
theorem sk_sk (t : Nat → Nat) {n p : Nat} : rd_sk t n (rd_sk t n p) = rd_sk t n p := by
  obtain ⟨h1, h2, h3, h4⟩ := sk_spec t (n := n) (p := rd_sk t n p)
  have h5 := (sk_spec t (n := n) (p := p)).2.2.2
  by_cases h : rd_sk t n (rd_sk t n p) = rd_sk t n p
  · exact h
  · have := h3 (rd_sk t n p) (Nat.le_refl _) (by omega)
    rw [h5] at this
    cases this
theorem num_sk (t : Nat → Nat) {n p lo hi : Nat} : rd_num t n (rd_sk t n p) lo hi = rd_num t n p lo hi := by
  unfold rd_num
  rw [sk_sk]
theorem x_book1 (hT : XT f t n) {s : rd_R} (hs : XCs f n s) {nc : Nat} (h31 : f 3 1 = nI nc) (hnc : nc ≤ 4) : ∃ f', MX5_booking [.ref 1] (SG, f) = some ((rd_bo t n nc s).1, (SG, f')) ∧ XCs f' n (rd_bo t n nc s).2 ∧ ∀ x, x ≠ 1 → f' x = f x := by
  have n240 := hT.1
  have e09 : (0 : Int32) = nI 0 := rfl
  have z9 : ¬ (0 : Int32) = 9 := by decide
  have pre : ∀ p k w, p ≤ n → XC f n p k w → MX5_skipBlanks [.ref 1] (SG, f) = some ((), (SG, jz_up f 1 2 (nI (rd_sk t n p)))) ∧ rd_sk t n p ≤ n ∧ XC (jz_up f 1 2 (nI (rd_sk t n p))) n (rd_sk t n p) k w := fun p k w hp hc => ⟨x_skip hT hp hc, (sk_spec t).2.1 hp, hc.set2⟩
  cases s with
  | inl e =>
    obtain ⟨he, p, hp, hc⟩ := hs
    obtain ⟨k1, hq, hc1⟩ := pre p e.1 _ hp hc
    have hT1 : XT (jz_up f 1 2 (nI (rd_sk t n p))) t n := hT.keep (uq_far (by decide))
    obtain ⟨f2, a1, a2, a3⟩ := x_num (f := jz_up f 1 2 (nI (rd_sk t n p))) hT1 (s := .inl e) ⟨he, _, hq, hc1⟩ (a := 0) (b := 9) (lo := 0) (hi := 9) rfl rfl (by decide) (by decide)
    have ev : nI (rd_nx t n (.inl e) 0 9).1 = 0 := rfl
    have es : (rd_nx t n (.inl e) 0 9).2 = .inl e := rfl
    rw [ev] at a1
    rw [es] at a2
    have hne : ¬ f2 1 3 = 0 := by
      obtain ⟨_, p2, _, h⟩ := a2
      rw [h.2.2.1]
      exact fun h => by
        have := (nn_inj (n := 0) (by omega) (by decide)).mp h
        omega
    have k3 : ∀ u v, MX5_blame [.ref 1, .int u, .int v] (SG, f2) = some ((), (SG, f2)) := fun u v => x_blame1 hne
    have h32 : f2 3 1 = nI nc := by rw [a3 3 (by decide), uq_far (by decide)]; exact h31
    refine ⟨f2, run_I rfl ⟨rfl, Nat.le_of_ble_eq_true rfl⟩ ?_, a2, fun x hx => by rw [a3 x hx, uq_far hx]⟩
    show _ = some (Sum.inr (some (Value.int 0), _))
    unfold BX5_booking
    by_cases hle : nI nc ≤ 0
    · simp only [ev_seq, ev_if, ev_ret, ev_retv, ev_skip, ev_pop, ev_puti, ev_putz, ev_updf, ev_st, ev_stz, ev_upda, ev_scall, ev_int, ev_lng, ev_bin, ev_un, ev_div, ev_ldiv, ev_fi, ev_fr, ev_ld, ev_lr, ev_and, ev_or, ev_not, ev_of, ev_ite, ev_gnil, ev_gcons, ev_call, Option.bind_some, ev_loc0, ev_seti0, ev_setr0, ev_inc0, ev_loc1, ev_seti1, ev_setr1, ev_inc1, ev_loc2, ev_seti2, ev_setr2, ev_inc2, ev_loc3, ev_seti3, ev_setr3, ev_inc3, ev_loc4, ev_seti4, ev_setr4, ev_inc4, ev_loc5, ev_seti5, ev_setr5, ev_inc5, ev_loc6, ev_seti6, ev_setr6, ev_inc6, ev_loc7, ev_seti7, ev_setr7, ev_inc7, ev_loc8, ev_seti8, ev_setr8, ev_inc8, ev_lor0, ev_lor1, ev_lor2, ev_lor3, ev_isS, ok_same, List.length_cons, List.length_nil, Nat.zero_add, Nat.reduceAdd, BEq.rfl, if_true, io_274, jo_lt, jo_le, jo_gt, jo_ge, jo_eq, jo_ne, ent_1_1, ent_2_1, ent_2_2, ent_3_1, ent_3_2, ent_3_3, ent_4_1, ent_4_2, ent_4_3, ent_4_4, ent_5_1, ent_5_2, ent_5_3, ent_5_4, ent_5_5, ent_6_1, ent_6_2, ent_6_3, ent_6_4, ent_6_5, ent_6_6, ent_7_1, ent_7_2, ent_7_3, ent_7_4, ent_7_5, ent_7_6, ent_8_1, ent_8_2, ent_8_3, ent_8_4, ent_8_5, ent_8_6, ent_9_1, ent_9_2, ent_9_3, ent_9_4, ent_9_5, ent_9_6, if_false, decide_true, decide_false, Bool.false_eq_true, and_self, and_true, true_and, and_false, false_and, or_true, true_or, or_false, false_or, decide_eq_true_eq, not_true_eq_false, not_false_eq_true, jo_b_dec, Bool.not_true, Bool.not_false, gr_0_0, gr_0_1, gr_0_2, gr_0_3, gr_0_4, gr_0_5, gr_0_6, gr_0_7, gi_0_8, gi_0_9, pi_0_8, pi_0_9, io_0, gr_1_0, gi_1_1, gi_1_2, gi_1_3, gi_1_4, pi_1_1, pi_1_2, pi_1_3, pi_1_4, gr_1_5, gr_1_6, io_1, ld_2, st_2, gi_18_0, gi_18_1, gi_18_2, gr_18_3, gr_18_4, pi_18_0, pi_18_1, pi_18_2, io_18, ld_19, ld_20, st_19, st_20, gr_45_0, gi_45_1, gi_45_2, pi_45_1, pi_45_2, io_45, gr_240_0, gr_240_1, gr_240_2, gr_240_3, gi_240_4, pi_240_4, io_240, ld_241, st_241, ld_242, st_242, ld_243, st_243, ld_244, st_244, ld_246, st_246, ld_247, st_247, gr_245_0, gr_245_1, gi_245_2, pi_245_2, io_245, gr_6_0, gr_6_3, gr_6_4, gr_6_5, gr_6_6, gr_6_7, gr_6_8, gr_6_9, gr_6_10, gr_6_11, gr_6_12, gi_6_1, pi_6_1, gi_6_2, pi_6_2, io_6, ld_4, st_4, ld_5, st_5, ld_7, st_7, ld_8, st_8, ld_9, st_9, ld_10, st_10, ld_11, st_11, ld_12, st_12, ld_13, st_13, ld_14, st_14, ld_15, st_15, gi_3_0, gi_3_1, gi_3_2, pi_3_0, pi_3_1, pi_3_2, gr_3_3, gr_3_4, io_3, k1, a1, z9, h32, hle, k3]
    · simp only [ev_seq, ev_if, ev_ret, ev_retv, ev_skip, ev_pop, ev_puti, ev_putz, ev_updf, ev_st, ev_stz, ev_upda, ev_scall, ev_int, ev_lng, ev_bin, ev_un, ev_div, ev_ldiv, ev_fi, ev_fr, ev_ld, ev_lr, ev_and, ev_or, ev_not, ev_of, ev_ite, ev_gnil, ev_gcons, ev_call, Option.bind_some, ev_loc0, ev_seti0, ev_setr0, ev_inc0, ev_loc1, ev_seti1, ev_setr1, ev_inc1, ev_loc2, ev_seti2, ev_setr2, ev_inc2, ev_loc3, ev_seti3, ev_setr3, ev_inc3, ev_loc4, ev_seti4, ev_setr4, ev_inc4, ev_loc5, ev_seti5, ev_setr5, ev_inc5, ev_loc6, ev_seti6, ev_setr6, ev_inc6, ev_loc7, ev_seti7, ev_setr7, ev_inc7, ev_loc8, ev_seti8, ev_setr8, ev_inc8, ev_lor0, ev_lor1, ev_lor2, ev_lor3, ev_isS, ok_same, List.length_cons, List.length_nil, Nat.zero_add, Nat.reduceAdd, BEq.rfl, if_true, io_274, jo_lt, jo_le, jo_gt, jo_ge, jo_eq, jo_ne, ent_1_1, ent_2_1, ent_2_2, ent_3_1, ent_3_2, ent_3_3, ent_4_1, ent_4_2, ent_4_3, ent_4_4, ent_5_1, ent_5_2, ent_5_3, ent_5_4, ent_5_5, ent_6_1, ent_6_2, ent_6_3, ent_6_4, ent_6_5, ent_6_6, ent_7_1, ent_7_2, ent_7_3, ent_7_4, ent_7_5, ent_7_6, ent_8_1, ent_8_2, ent_8_3, ent_8_4, ent_8_5, ent_8_6, ent_9_1, ent_9_2, ent_9_3, ent_9_4, ent_9_5, ent_9_6, if_false, decide_true, decide_false, Bool.false_eq_true, and_self, and_true, true_and, and_false, false_and, or_true, true_or, or_false, false_or, decide_eq_true_eq, not_true_eq_false, not_false_eq_true, jo_b_dec, Bool.not_true, Bool.not_false, gr_0_0, gr_0_1, gr_0_2, gr_0_3, gr_0_4, gr_0_5, gr_0_6, gr_0_7, gi_0_8, gi_0_9, pi_0_8, pi_0_9, io_0, gr_1_0, gi_1_1, gi_1_2, gi_1_3, gi_1_4, pi_1_1, pi_1_2, pi_1_3, pi_1_4, gr_1_5, gr_1_6, io_1, ld_2, st_2, gi_18_0, gi_18_1, gi_18_2, gr_18_3, gr_18_4, pi_18_0, pi_18_1, pi_18_2, io_18, ld_19, ld_20, st_19, st_20, gr_45_0, gi_45_1, gi_45_2, pi_45_1, pi_45_2, io_45, gr_240_0, gr_240_1, gr_240_2, gr_240_3, gi_240_4, pi_240_4, io_240, ld_241, st_241, ld_242, st_242, ld_243, st_243, ld_244, st_244, ld_246, st_246, ld_247, st_247, gr_245_0, gr_245_1, gi_245_2, pi_245_2, io_245, gr_6_0, gr_6_3, gr_6_4, gr_6_5, gr_6_6, gr_6_7, gr_6_8, gr_6_9, gr_6_10, gr_6_11, gr_6_12, gi_6_1, pi_6_1, gi_6_2, pi_6_2, io_6, ld_4, st_4, ld_5, st_5, ld_7, st_7, ld_8, st_8, ld_9, st_9, ld_10, st_10, ld_11, st_11, ld_12, st_12, ld_13, st_13, ld_14, st_14, ld_15, st_15, gi_3_0, gi_3_1, gi_3_2, pi_3_0, pi_3_1, pi_3_2, gr_3_3, gr_3_4, io_3, k1, a1, z9, h32, hle]
  | inr p =>
    obtain ⟨hp, hc⟩ := hs
    obtain ⟨k1, hq, hc1⟩ := pre p 0 _ hp hc
    have hT1 : XT (jz_up f 1 2 (nI (rd_sk t n p))) t n := hT.keep (uq_far (by decide))
    obtain ⟨f2, a1, a2, a3⟩ := x_num (f := jz_up f 1 2 (nI (rd_sk t n p))) hT1 (s := .inr (rd_sk t n p)) ⟨hq, hc1⟩ (a := 0) (b := 9) (lo := 0) (hi := 9) rfl rfl (by decide) (by decide)
    have hp2 : jz_up f 1 2 (nI (rd_sk t n p)) 1 2 = nI (rd_sk t n p) := uq_at
    have h32 : f2 3 1 = nI nc := by rw [a3 3 (by decide), uq_far (by decide)]; exact h31
    have fr : ∀ x, x ≠ 1 → f2 x = f x := fun x hx => by rw [a3 x hx, uq_far hx]
    have eq := num_sk t (n := n) (p := p) (lo := 0) (hi := 9)
    generalize hqe : rd_sk t n p = q at k1 hq hc1 hT1 a1 a2 a3 hp2 eq
    generalize jz_up f 1 2 (nI q) = f1 at k1 hc1 hT1 a1 a3 hp2
    cases hnum : rd_num t n p 0 9 with
    | inl e =>
      have en : rd_nx t n (.inr q) 0 9 = (0, .inl e) := nx_l (by rw [eq]; exact hnum)
      rw [en] at a1 a2
      have eb : rd_bo t n nc (.inr p) = (0, .inl e) := by
        unfold rd_bo
        simp only [hnum]
      rw [eb]
      have a1' : MX5_number [.ref 1, .int 0, .int 9] (SG, f1) = some (0, (SG, f2)) := a1
      have hne : ¬ f2 1 3 = 0 := by
        obtain ⟨he, p2, _, h⟩ := a2
        rw [h.2.2.1]
        exact fun h => by
          have := (nn_inj (n := 0) (by omega) (by decide)).mp h
          omega
      have k3 : ∀ u v, MX5_blame [.ref 1, .int u, .int v] (SG, f2) = some ((), (SG, f2)) := fun u v => x_blame1 hne
      refine ⟨f2, run_I rfl ⟨rfl, Nat.le_of_ble_eq_true rfl⟩ ?_, a2, fr⟩
      unfold BX5_booking
      by_cases hle : nI nc ≤ 0
      · simp only [ev_seq, ev_if, ev_ret, ev_retv, ev_skip, ev_pop, ev_puti, ev_putz, ev_updf, ev_st, ev_stz, ev_upda, ev_scall, ev_int, ev_lng, ev_bin, ev_un, ev_div, ev_ldiv, ev_fi, ev_fr, ev_ld, ev_lr, ev_and, ev_or, ev_not, ev_of, ev_ite, ev_gnil, ev_gcons, ev_call, Option.bind_some, ev_loc0, ev_seti0, ev_setr0, ev_inc0, ev_loc1, ev_seti1, ev_setr1, ev_inc1, ev_loc2, ev_seti2, ev_setr2, ev_inc2, ev_loc3, ev_seti3, ev_setr3, ev_inc3, ev_loc4, ev_seti4, ev_setr4, ev_inc4, ev_loc5, ev_seti5, ev_setr5, ev_inc5, ev_loc6, ev_seti6, ev_setr6, ev_inc6, ev_loc7, ev_seti7, ev_setr7, ev_inc7, ev_loc8, ev_seti8, ev_setr8, ev_inc8, ev_lor0, ev_lor1, ev_lor2, ev_lor3, ev_isS, ok_same, List.length_cons, List.length_nil, Nat.zero_add, Nat.reduceAdd, BEq.rfl, if_true, io_274, jo_lt, jo_le, jo_gt, jo_ge, jo_eq, jo_ne, ent_1_1, ent_2_1, ent_2_2, ent_3_1, ent_3_2, ent_3_3, ent_4_1, ent_4_2, ent_4_3, ent_4_4, ent_5_1, ent_5_2, ent_5_3, ent_5_4, ent_5_5, ent_6_1, ent_6_2, ent_6_3, ent_6_4, ent_6_5, ent_6_6, ent_7_1, ent_7_2, ent_7_3, ent_7_4, ent_7_5, ent_7_6, ent_8_1, ent_8_2, ent_8_3, ent_8_4, ent_8_5, ent_8_6, ent_9_1, ent_9_2, ent_9_3, ent_9_4, ent_9_5, ent_9_6, if_false, decide_true, decide_false, Bool.false_eq_true, and_self, and_true, true_and, and_false, false_and, or_true, true_or, or_false, false_or, decide_eq_true_eq, not_true_eq_false, not_false_eq_true, jo_b_dec, Bool.not_true, Bool.not_false, gr_0_0, gr_0_1, gr_0_2, gr_0_3, gr_0_4, gr_0_5, gr_0_6, gr_0_7, gi_0_8, gi_0_9, pi_0_8, pi_0_9, io_0, gr_1_0, gi_1_1, gi_1_2, gi_1_3, gi_1_4, pi_1_1, pi_1_2, pi_1_3, pi_1_4, gr_1_5, gr_1_6, io_1, ld_2, st_2, gi_18_0, gi_18_1, gi_18_2, gr_18_3, gr_18_4, pi_18_0, pi_18_1, pi_18_2, io_18, ld_19, ld_20, st_19, st_20, gr_45_0, gi_45_1, gi_45_2, pi_45_1, pi_45_2, io_45, gr_240_0, gr_240_1, gr_240_2, gr_240_3, gi_240_4, pi_240_4, io_240, ld_241, st_241, ld_242, st_242, ld_243, st_243, ld_244, st_244, ld_246, st_246, ld_247, st_247, gr_245_0, gr_245_1, gi_245_2, pi_245_2, io_245, gr_6_0, gr_6_3, gr_6_4, gr_6_5, gr_6_6, gr_6_7, gr_6_8, gr_6_9, gr_6_10, gr_6_11, gr_6_12, gi_6_1, pi_6_1, gi_6_2, pi_6_2, io_6, ld_4, st_4, ld_5, st_5, ld_7, st_7, ld_8, st_8, ld_9, st_9, ld_10, st_10, ld_11, st_11, ld_12, st_12, ld_13, st_13, ld_14, st_14, ld_15, st_15, gi_3_0, gi_3_1, gi_3_2, pi_3_0, pi_3_1, pi_3_2, gr_3_3, gr_3_4, io_3, k1, a1', z9, h32, hle, k3]
      · simp only [ev_seq, ev_if, ev_ret, ev_retv, ev_skip, ev_pop, ev_puti, ev_putz, ev_updf, ev_st, ev_stz, ev_upda, ev_scall, ev_int, ev_lng, ev_bin, ev_un, ev_div, ev_ldiv, ev_fi, ev_fr, ev_ld, ev_lr, ev_and, ev_or, ev_not, ev_of, ev_ite, ev_gnil, ev_gcons, ev_call, Option.bind_some, ev_loc0, ev_seti0, ev_setr0, ev_inc0, ev_loc1, ev_seti1, ev_setr1, ev_inc1, ev_loc2, ev_seti2, ev_setr2, ev_inc2, ev_loc3, ev_seti3, ev_setr3, ev_inc3, ev_loc4, ev_seti4, ev_setr4, ev_inc4, ev_loc5, ev_seti5, ev_setr5, ev_inc5, ev_loc6, ev_seti6, ev_setr6, ev_inc6, ev_loc7, ev_seti7, ev_setr7, ev_inc7, ev_loc8, ev_seti8, ev_setr8, ev_inc8, ev_lor0, ev_lor1, ev_lor2, ev_lor3, ev_isS, ok_same, List.length_cons, List.length_nil, Nat.zero_add, Nat.reduceAdd, BEq.rfl, if_true, io_274, jo_lt, jo_le, jo_gt, jo_ge, jo_eq, jo_ne, ent_1_1, ent_2_1, ent_2_2, ent_3_1, ent_3_2, ent_3_3, ent_4_1, ent_4_2, ent_4_3, ent_4_4, ent_5_1, ent_5_2, ent_5_3, ent_5_4, ent_5_5, ent_6_1, ent_6_2, ent_6_3, ent_6_4, ent_6_5, ent_6_6, ent_7_1, ent_7_2, ent_7_3, ent_7_4, ent_7_5, ent_7_6, ent_8_1, ent_8_2, ent_8_3, ent_8_4, ent_8_5, ent_8_6, ent_9_1, ent_9_2, ent_9_3, ent_9_4, ent_9_5, ent_9_6, if_false, decide_true, decide_false, Bool.false_eq_true, and_self, and_true, true_and, and_false, false_and, or_true, true_or, or_false, false_or, decide_eq_true_eq, not_true_eq_false, not_false_eq_true, jo_b_dec, Bool.not_true, Bool.not_false, gr_0_0, gr_0_1, gr_0_2, gr_0_3, gr_0_4, gr_0_5, gr_0_6, gr_0_7, gi_0_8, gi_0_9, pi_0_8, pi_0_9, io_0, gr_1_0, gi_1_1, gi_1_2, gi_1_3, gi_1_4, pi_1_1, pi_1_2, pi_1_3, pi_1_4, gr_1_5, gr_1_6, io_1, ld_2, st_2, gi_18_0, gi_18_1, gi_18_2, gr_18_3, gr_18_4, pi_18_0, pi_18_1, pi_18_2, io_18, ld_19, ld_20, st_19, st_20, gr_45_0, gi_45_1, gi_45_2, pi_45_1, pi_45_2, io_45, gr_240_0, gr_240_1, gr_240_2, gr_240_3, gi_240_4, pi_240_4, io_240, ld_241, st_241, ld_242, st_242, ld_243, st_243, ld_244, st_244, ld_246, st_246, ld_247, st_247, gr_245_0, gr_245_1, gi_245_2, pi_245_2, io_245, gr_6_0, gr_6_3, gr_6_4, gr_6_5, gr_6_6, gr_6_7, gr_6_8, gr_6_9, gr_6_10, gr_6_11, gr_6_12, gi_6_1, pi_6_1, gi_6_2, pi_6_2, io_6, ld_4, st_4, ld_5, st_5, ld_7, st_7, ld_8, st_8, ld_9, st_9, ld_10, st_10, ld_11, st_11, ld_12, st_12, ld_13, st_13, ld_14, st_14, ld_15, st_15, gi_3_0, gi_3_1, gi_3_2, pi_3_0, pi_3_1, pi_3_2, gr_3_3, gr_3_4, io_3, k1, a1', z9, h32, hle]
    | inr x =>
      have en : rd_nx t n (.inr q) 0 9 = (x.1, .inr x.2) := nx_r (by rw [eq]; exact hnum)
      rw [en] at a1 a2
      have hx9 := (num_ok hnum).2.1
      have eb : rd_bo t n nc (.inr p) = if x.1 = 9 then (-1, .inr x.2) else if nc ≤ x.1 then (nI x.1, .inl (2, q)) else (nI x.1, .inr x.2) := by
        unfold rd_bo
        simp only [hnum, hqe]
      rw [eb]
      obtain ⟨v, e⟩ := x
      by_cases h9 : v = 9
      · rw [if_pos h9]
        have z : (nI v = 9) = True := eq_true (by rw [h9]; rfl)
        refine ⟨f2, run_I rfl ⟨rfl, Nat.le_of_ble_eq_true rfl⟩ ?_, a2, fr⟩
        unfold BX5_booking
        simp only [ev_seq, ev_if, ev_ret, ev_retv, ev_skip, ev_pop, ev_puti, ev_putz, ev_updf, ev_st, ev_stz, ev_upda, ev_scall, ev_int, ev_lng, ev_bin, ev_un, ev_div, ev_ldiv, ev_fi, ev_fr, ev_ld, ev_lr, ev_and, ev_or, ev_not, ev_of, ev_ite, ev_gnil, ev_gcons, ev_call, Option.bind_some, ev_loc0, ev_seti0, ev_setr0, ev_inc0, ev_loc1, ev_seti1, ev_setr1, ev_inc1, ev_loc2, ev_seti2, ev_setr2, ev_inc2, ev_loc3, ev_seti3, ev_setr3, ev_inc3, ev_loc4, ev_seti4, ev_setr4, ev_inc4, ev_loc5, ev_seti5, ev_setr5, ev_inc5, ev_loc6, ev_seti6, ev_setr6, ev_inc6, ev_loc7, ev_seti7, ev_setr7, ev_inc7, ev_loc8, ev_seti8, ev_setr8, ev_inc8, ev_lor0, ev_lor1, ev_lor2, ev_lor3, ev_isS, ok_same, List.length_cons, List.length_nil, Nat.zero_add, Nat.reduceAdd, BEq.rfl, if_true, io_274, jo_lt, jo_le, jo_gt, jo_ge, jo_eq, jo_ne, ent_1_1, ent_2_1, ent_2_2, ent_3_1, ent_3_2, ent_3_3, ent_4_1, ent_4_2, ent_4_3, ent_4_4, ent_5_1, ent_5_2, ent_5_3, ent_5_4, ent_5_5, ent_6_1, ent_6_2, ent_6_3, ent_6_4, ent_6_5, ent_6_6, ent_7_1, ent_7_2, ent_7_3, ent_7_4, ent_7_5, ent_7_6, ent_8_1, ent_8_2, ent_8_3, ent_8_4, ent_8_5, ent_8_6, ent_9_1, ent_9_2, ent_9_3, ent_9_4, ent_9_5, ent_9_6, if_false, decide_true, decide_false, Bool.false_eq_true, and_self, and_true, true_and, and_false, false_and, or_true, true_or, or_false, false_or, decide_eq_true_eq, not_true_eq_false, not_false_eq_true, jo_b_dec, Bool.not_true, Bool.not_false, gr_0_0, gr_0_1, gr_0_2, gr_0_3, gr_0_4, gr_0_5, gr_0_6, gr_0_7, gi_0_8, gi_0_9, pi_0_8, pi_0_9, io_0, gr_1_0, gi_1_1, gi_1_2, gi_1_3, gi_1_4, pi_1_1, pi_1_2, pi_1_3, pi_1_4, gr_1_5, gr_1_6, io_1, ld_2, st_2, gi_18_0, gi_18_1, gi_18_2, gr_18_3, gr_18_4, pi_18_0, pi_18_1, pi_18_2, io_18, ld_19, ld_20, st_19, st_20, gr_45_0, gi_45_1, gi_45_2, pi_45_1, pi_45_2, io_45, gr_240_0, gr_240_1, gr_240_2, gr_240_3, gi_240_4, pi_240_4, io_240, ld_241, st_241, ld_242, st_242, ld_243, st_243, ld_244, st_244, ld_246, st_246, ld_247, st_247, gr_245_0, gr_245_1, gi_245_2, pi_245_2, io_245, gr_6_0, gr_6_3, gr_6_4, gr_6_5, gr_6_6, gr_6_7, gr_6_8, gr_6_9, gr_6_10, gr_6_11, gr_6_12, gi_6_1, pi_6_1, gi_6_2, pi_6_2, io_6, ld_4, st_4, ld_5, st_5, ld_7, st_7, ld_8, st_8, ld_9, st_9, ld_10, st_10, ld_11, st_11, ld_12, st_12, ld_13, st_13, ld_14, st_14, ld_15, st_15, gi_3_0, gi_3_1, gi_3_2, pi_3_0, pi_3_1, pi_3_2, gr_3_3, gr_3_4, io_3, k1, a1, z]
      · rw [if_neg h9]
        have z : (nI v = 9) = False := eq_false (fun h => h9 ((nn_inj (n := 9) (by omega) (by decide)).mp h))
        by_cases hv : nc ≤ v
        · rw [if_pos hv]
          have hv' : nI nc ≤ nI v := (nn_le (by omega) (by omega)).mpr hv
          have h30 : f2 1 3 = 0 := a2.2.2.2.1
          have k3 := x_blame0 (f := f2) (a := nI 2) (w := nI q) h30
          have hb1 := XC.blame (k := 2) (w' := nI q) a2.2
          have e2 : (2 : Int32) = nI 2 := rfl
          refine ⟨jz_up (jz_up f2 1 3 (nI 2)) 1 4 (nI q), run_I rfl ⟨rfl, Nat.le_of_ble_eq_true rfl⟩ ?_, ⟨Or.inr (Or.inl rfl), e, a2.1, hb1⟩, fun x hx => by rw [uq_far hx, uq_far hx]; exact fr x hx⟩
          unfold BX5_booking
          simp only [ev_seq, ev_if, ev_ret, ev_retv, ev_skip, ev_pop, ev_puti, ev_putz, ev_updf, ev_st, ev_stz, ev_upda, ev_scall, ev_int, ev_lng, ev_bin, ev_un, ev_div, ev_ldiv, ev_fi, ev_fr, ev_ld, ev_lr, ev_and, ev_or, ev_not, ev_of, ev_ite, ev_gnil, ev_gcons, ev_call, Option.bind_some, ev_loc0, ev_seti0, ev_setr0, ev_inc0, ev_loc1, ev_seti1, ev_setr1, ev_inc1, ev_loc2, ev_seti2, ev_setr2, ev_inc2, ev_loc3, ev_seti3, ev_setr3, ev_inc3, ev_loc4, ev_seti4, ev_setr4, ev_inc4, ev_loc5, ev_seti5, ev_setr5, ev_inc5, ev_loc6, ev_seti6, ev_setr6, ev_inc6, ev_loc7, ev_seti7, ev_setr7, ev_inc7, ev_loc8, ev_seti8, ev_setr8, ev_inc8, ev_lor0, ev_lor1, ev_lor2, ev_lor3, ev_isS, ok_same, List.length_cons, List.length_nil, Nat.zero_add, Nat.reduceAdd, BEq.rfl, if_true, io_274, jo_lt, jo_le, jo_gt, jo_ge, jo_eq, jo_ne, ent_1_1, ent_2_1, ent_2_2, ent_3_1, ent_3_2, ent_3_3, ent_4_1, ent_4_2, ent_4_3, ent_4_4, ent_5_1, ent_5_2, ent_5_3, ent_5_4, ent_5_5, ent_6_1, ent_6_2, ent_6_3, ent_6_4, ent_6_5, ent_6_6, ent_7_1, ent_7_2, ent_7_3, ent_7_4, ent_7_5, ent_7_6, ent_8_1, ent_8_2, ent_8_3, ent_8_4, ent_8_5, ent_8_6, ent_9_1, ent_9_2, ent_9_3, ent_9_4, ent_9_5, ent_9_6, if_false, decide_true, decide_false, Bool.false_eq_true, and_self, and_true, true_and, and_false, false_and, or_true, true_or, or_false, false_or, decide_eq_true_eq, not_true_eq_false, not_false_eq_true, jo_b_dec, Bool.not_true, Bool.not_false, gr_0_0, gr_0_1, gr_0_2, gr_0_3, gr_0_4, gr_0_5, gr_0_6, gr_0_7, gi_0_8, gi_0_9, pi_0_8, pi_0_9, io_0, gr_1_0, gi_1_1, gi_1_2, gi_1_3, gi_1_4, pi_1_1, pi_1_2, pi_1_3, pi_1_4, gr_1_5, gr_1_6, io_1, ld_2, st_2, gi_18_0, gi_18_1, gi_18_2, gr_18_3, gr_18_4, pi_18_0, pi_18_1, pi_18_2, io_18, ld_19, ld_20, st_19, st_20, gr_45_0, gi_45_1, gi_45_2, pi_45_1, pi_45_2, io_45, gr_240_0, gr_240_1, gr_240_2, gr_240_3, gi_240_4, pi_240_4, io_240, ld_241, st_241, ld_242, st_242, ld_243, st_243, ld_244, st_244, ld_246, st_246, ld_247, st_247, gr_245_0, gr_245_1, gi_245_2, pi_245_2, io_245, gr_6_0, gr_6_3, gr_6_4, gr_6_5, gr_6_6, gr_6_7, gr_6_8, gr_6_9, gr_6_10, gr_6_11, gr_6_12, gi_6_1, pi_6_1, gi_6_2, pi_6_2, io_6, ld_4, st_4, ld_5, st_5, ld_7, st_7, ld_8, st_8, ld_9, st_9, ld_10, st_10, ld_11, st_11, ld_12, st_12, ld_13, st_13, ld_14, st_14, ld_15, st_15, gi_3_0, gi_3_1, gi_3_2, pi_3_0, pi_3_1, pi_3_2, gr_3_3, gr_3_4, io_3, k1, hp2, a1, z, h32, hv', e2, k3]
        · rw [if_neg hv]
          have hv' : ¬ nI nc ≤ nI v := fun h => hv ((nn_le (by omega) (by omega)).mp h)
          refine ⟨f2, run_I rfl ⟨rfl, Nat.le_of_ble_eq_true rfl⟩ ?_, a2, fr⟩
          unfold BX5_booking
          simp only [ev_seq, ev_if, ev_ret, ev_retv, ev_skip, ev_pop, ev_puti, ev_putz, ev_updf, ev_st, ev_stz, ev_upda, ev_scall, ev_int, ev_lng, ev_bin, ev_un, ev_div, ev_ldiv, ev_fi, ev_fr, ev_ld, ev_lr, ev_and, ev_or, ev_not, ev_of, ev_ite, ev_gnil, ev_gcons, ev_call, Option.bind_some, ev_loc0, ev_seti0, ev_setr0, ev_inc0, ev_loc1, ev_seti1, ev_setr1, ev_inc1, ev_loc2, ev_seti2, ev_setr2, ev_inc2, ev_loc3, ev_seti3, ev_setr3, ev_inc3, ev_loc4, ev_seti4, ev_setr4, ev_inc4, ev_loc5, ev_seti5, ev_setr5, ev_inc5, ev_loc6, ev_seti6, ev_setr6, ev_inc6, ev_loc7, ev_seti7, ev_setr7, ev_inc7, ev_loc8, ev_seti8, ev_setr8, ev_inc8, ev_lor0, ev_lor1, ev_lor2, ev_lor3, ev_isS, ok_same, List.length_cons, List.length_nil, Nat.zero_add, Nat.reduceAdd, BEq.rfl, if_true, io_274, jo_lt, jo_le, jo_gt, jo_ge, jo_eq, jo_ne, ent_1_1, ent_2_1, ent_2_2, ent_3_1, ent_3_2, ent_3_3, ent_4_1, ent_4_2, ent_4_3, ent_4_4, ent_5_1, ent_5_2, ent_5_3, ent_5_4, ent_5_5, ent_6_1, ent_6_2, ent_6_3, ent_6_4, ent_6_5, ent_6_6, ent_7_1, ent_7_2, ent_7_3, ent_7_4, ent_7_5, ent_7_6, ent_8_1, ent_8_2, ent_8_3, ent_8_4, ent_8_5, ent_8_6, ent_9_1, ent_9_2, ent_9_3, ent_9_4, ent_9_5, ent_9_6, if_false, decide_true, decide_false, Bool.false_eq_true, and_self, and_true, true_and, and_false, false_and, or_true, true_or, or_false, false_or, decide_eq_true_eq, not_true_eq_false, not_false_eq_true, jo_b_dec, Bool.not_true, Bool.not_false, gr_0_0, gr_0_1, gr_0_2, gr_0_3, gr_0_4, gr_0_5, gr_0_6, gr_0_7, gi_0_8, gi_0_9, pi_0_8, pi_0_9, io_0, gr_1_0, gi_1_1, gi_1_2, gi_1_3, gi_1_4, pi_1_1, pi_1_2, pi_1_3, pi_1_4, gr_1_5, gr_1_6, io_1, ld_2, st_2, gi_18_0, gi_18_1, gi_18_2, gr_18_3, gr_18_4, pi_18_0, pi_18_1, pi_18_2, io_18, ld_19, ld_20, st_19, st_20, gr_45_0, gi_45_1, gi_45_2, pi_45_1, pi_45_2, io_45, gr_240_0, gr_240_1, gr_240_2, gr_240_3, gi_240_4, pi_240_4, io_240, ld_241, st_241, ld_242, st_242, ld_243, st_243, ld_244, st_244, ld_246, st_246, ld_247, st_247, gr_245_0, gr_245_1, gi_245_2, pi_245_2, io_245, gr_6_0, gr_6_3, gr_6_4, gr_6_5, gr_6_6, gr_6_7, gr_6_8, gr_6_9, gr_6_10, gr_6_11, gr_6_12, gi_6_1, pi_6_1, gi_6_2, pi_6_2, io_6, ld_4, st_4, ld_5, st_5, ld_7, st_7, ld_8, st_8, ld_9, st_9, ld_10, st_10, ld_11, st_11, ld_12, st_12, ld_13, st_13, ld_14, st_14, ld_15, st_15, gi_3_0, gi_3_1, gi_3_2, pi_3_0, pi_3_1, pi_3_2, gr_3_3, gr_3_4, io_3, k1, a1, z, h32, hv']
/-- 'p' -/
def rd_cp (t : Nat → Nat) (n : Nat) (A : rd_A) (s : rd_R) : rd_A × rd_R :=
  let x := rd_nx t n s 0 3
  let y := rd_nx t n x.2 0 (ra_ni A - 1)
  let z := rd_nx t n y.2 0 30
  let u := rd_nx t n z.2 0 (ra_ni A - 1)
  let b := rd_bo t n (ra_nc A) u.2
  ((ra_ni A, ra_nc A, ra_np A + 1, upd (upd (upd (upd (ra_V A) (16 + ra_np A) (nI y.1)) (23 + ra_np A) (-1)) (30 + ra_np A) (nI z.1)) (37 + ra_np A) b.1, upd (ra_K A) (ra_np A) (nI x.1), upd (ra_W A) (ra_np A) (nI u.1)), b.2)
theorem x_pass1 {A : rd_A} (hT : XT f t n) {s : rd_R} (hs : XCs f n s) (hA : XA f A) (hni : 2 ≤ ra_ni A ∧ ra_ni A ≤ 7) (h0 : ra_nc A ≤ 4) (h1 : ra_np A < 7) (hpn : f 15 (ra_np A) = ra_V A (44 + ra_np A)) : ∃ f', MX5_readPassenger [.ref 1, .int (nI (ra_np A))] (SG, f) = some ((), (SG, f')) ∧ XCs f' n (rd_cp t n A s).2 ∧ XA f' (rd_cp t n A s).1 ∧ (∀ x, ¬ (x = 1 ∨ (3 ≤ x ∧ x ≤ 5) ∨ (11 ≤ x ∧ x ≤ 14)) → f' x = f x) := by
  obtain ⟨q1, q2, q3, q4, q5, q6⟩ := hA
  obtain ⟨p, hp⟩ : ∃ p, p = ra_np A := ⟨_, rfl⟩
  have em : nI (ra_ni A) - 1 = nI (ra_ni A - 1) := nn_sub (b := 1) (by omega)
  obtain ⟨f1, a1, a2, a3⟩ := x_num hT hs (a := 0) (b := 3) (lo := 0) (hi := 3) rfl rfl (by decide) (by decide)
  obtain ⟨v1, hv1⟩ : ∃ v, v = nI (rd_nx t n s 0 3).1 := ⟨_, rfl⟩
  rw [← hv1] at a1
  obtain ⟨g1, hg1⟩ : ∃ g, g = jz_up f1 4 p v1 := ⟨_, rfl⟩
  have hT1 : XT g1 t n := by rw [hg1]; exact (hT.keep (a3 2 (by decide))).up (by decide) _
  have E1 : Eq1 g1 (jz_up f 4 p v1) := by rw [hg1]; exact Eq1.up (g := f) a3 (by decide) v1
  have n1 : g1 3 0 = nI (ra_ni A) := by rw [E1 3 (by decide), uq_far (by decide)]; exact q1
  obtain ⟨f2, b1, b2, b3⟩ := x_num hT1 (by rw [hg1]; exact a2.up (by decide) v1) (a := 0) (b := nI (ra_ni A - 1)) (lo := 0) (hi := ra_ni A - 1) rfl rfl (by decide) (by omega)
  obtain ⟨v2, hv2⟩ : ∃ v, v = nI (rd_nx t n (rd_nx t n s 0 3).2 0 (ra_ni A - 1)).1 := ⟨_, rfl⟩
  rw [← hv2] at b1
  obtain ⟨g2, hg2⟩ : ∃ g, g = jz_up (jz_up f2 11 p v2) 12 p (-1) := ⟨_, rfl⟩
  have hT2 : XT g2 t n := by rw [hg2]; exact ((hT1.keep (b3 2 (by decide))).up (by decide) _).up (by decide) _
  have E2 : Eq1 g2 (jz_up (jz_up (jz_up f 4 p v1) 11 p v2) 12 p (-1)) := by rw [hg2]; exact ((E1.then b3).up (by decide) v2).up (by decide) (-1)
  obtain ⟨f3, c1, c2, c3⟩ := x_num hT2 (by rw [hg2]; exact (b2.up (by decide) v2).up (by decide) (-1)) (a := 0) (b := 30) (lo := 0) (hi := 30) rfl rfl (by decide) (by decide)
  obtain ⟨v3, hv3⟩ : ∃ v, v = nI (rd_nx t n (rd_nx t n (rd_nx t n s 0 3).2 0 (ra_ni A - 1)).2 0 30).1 := ⟨_, rfl⟩
  rw [← hv3] at c1
  obtain ⟨g3, hg3⟩ : ∃ g, g = jz_up f3 13 p v3 := ⟨_, rfl⟩
  have hT3 : XT g3 t n := by rw [hg3]; exact (hT2.keep (c3 2 (by decide))).up (by decide) _
  have E3 : Eq1 g3 (jz_up (jz_up (jz_up (jz_up f 4 p v1) 11 p v2) 12 p (-1)) 13 p v3) := by rw [hg3]; exact (E2.then c3).up (by decide) v3
  have n3 : g3 3 0 = nI (ra_ni A) := by rw [E3 3 (by decide), uq_far (by decide), uq_far (by decide), uq_far (by decide), uq_far (by decide)]; exact q1
  obtain ⟨f4, d1, d2, d3⟩ := x_num hT3 (by rw [hg3]; exact c2.up (by decide) v3) (a := 0) (b := nI (ra_ni A - 1)) (lo := 0) (hi := ra_ni A - 1) rfl rfl (by decide) (by omega)
  obtain ⟨v4, hv4⟩ : ∃ v, v = nI (rd_nx t n (rd_nx t n (rd_nx t n (rd_nx t n s 0 3).2 0 (ra_ni A - 1)).2 0 30).2 0 (ra_ni A - 1)).1 := ⟨_, rfl⟩
  rw [← hv4] at d1
  obtain ⟨g4, hg4⟩ : ∃ g, g = jz_up f4 5 p v4 := ⟨_, rfl⟩
  have hT4 : XT g4 t n := by rw [hg4]; exact (hT3.keep (d3 2 (by decide))).up (by decide) _
  have E4 : Eq1 g4 (jz_up (jz_up (jz_up (jz_up (jz_up f 4 p v1) 11 p v2) 12 p (-1)) 13 p v3) 5 p v4) := by rw [hg4]; exact (E3.then d3).up (by decide) v4
  have n4 : g4 3 1 = nI (ra_nc A) := by rw [E4 3 (by decide), uq_far (by decide), uq_far (by decide), uq_far (by decide), uq_far (by decide), uq_far (by decide)]; exact q2
  obtain ⟨f5, e1, e2, e3⟩ := x_book1 hT4 (by rw [hg4]; exact d2.up (by decide) v4) n4 h0
  obtain ⟨v5, hv5⟩ : ∃ v, v = (rd_bo t n (ra_nc A) (rd_nx t n (rd_nx t n (rd_nx t n (rd_nx t n s 0 3).2 0 (ra_ni A - 1)).2 0 30).2 0 (ra_ni A - 1)).2).1 := ⟨_, rfl⟩
  rw [← hv5] at e1
  have E5 : Eq1 (jz_up f5 14 p v5) (jz_up (jz_up (jz_up (jz_up (jz_up (jz_up f 4 p v1) 11 p v2) 12 p (-1)) 13 p v3) 5 p v4) 14 p v5) := (E4.then e3).up (by decide) v5
  generalize hg : jz_up (jz_up (jz_up (jz_up (jz_up (jz_up f 4 p v1) 11 p v2) 12 p (-1)) 13 p v3) 5 p v4) 14 p v5 = g at E5
  refine ⟨jz_up (jz_up f5 14 p v5) 3 2 (nI (p + 1)), run_V rfl ⟨rfl, Nat.le_of_ble_eq_true rfl⟩ ?_, (e2.up (by decide) _).up (by decide) _, ?_, ?_⟩
  · have n7 : ¬ (7 : Int32) ≤ nI p := fun h => by
      have := (nn_le (m := 7) (by decide) (by omega)).mp h
      omega
    rw [← hp]
    unfold BX5_readPassenger
    simp only [ev_seq, ev_if, ev_ret, ev_retv, ev_skip, ev_pop, ev_puti, ev_putz, ev_updf, ev_st, ev_stz, ev_upda, ev_scall, ev_int, ev_lng, ev_bin, ev_un, ev_div, ev_ldiv, ev_fi, ev_fr, ev_ld, ev_lr, ev_and, ev_or, ev_not, ev_of, ev_ite, ev_gnil, ev_gcons, ev_call, Option.bind_some, ev_loc0, ev_seti0, ev_setr0, ev_inc0, ev_loc1, ev_seti1, ev_setr1, ev_inc1, ev_loc2, ev_seti2, ev_setr2, ev_inc2, ev_loc3, ev_seti3, ev_setr3, ev_inc3, ev_loc4, ev_seti4, ev_setr4, ev_inc4, ev_loc5, ev_seti5, ev_setr5, ev_inc5, ev_loc6, ev_seti6, ev_setr6, ev_inc6, ev_loc7, ev_seti7, ev_setr7, ev_inc7, ev_loc8, ev_seti8, ev_setr8, ev_inc8, ev_lor0, ev_lor1, ev_lor2, ev_lor3, ev_isS, ok_same, List.length_cons, List.length_nil, Nat.zero_add, Nat.reduceAdd, BEq.rfl, if_true, io_274, jo_lt, jo_le, jo_gt, jo_ge, jo_eq, jo_ne, ent_1_1, ent_2_1, ent_2_2, ent_3_1, ent_3_2, ent_3_3, ent_4_1, ent_4_2, ent_4_3, ent_4_4, ent_5_1, ent_5_2, ent_5_3, ent_5_4, ent_5_5, ent_6_1, ent_6_2, ent_6_3, ent_6_4, ent_6_5, ent_6_6, ent_7_1, ent_7_2, ent_7_3, ent_7_4, ent_7_5, ent_7_6, ent_8_1, ent_8_2, ent_8_3, ent_8_4, ent_8_5, ent_8_6, ent_9_1, ent_9_2, ent_9_3, ent_9_4, ent_9_5, ent_9_6, if_false, decide_true, decide_false, Bool.false_eq_true, and_self, and_true, true_and, and_false, false_and, or_true, true_or, or_false, false_or, decide_eq_true_eq, not_true_eq_false, not_false_eq_true, jo_b_dec, Bool.not_true, Bool.not_false, gr_0_0, gr_0_1, gr_0_2, gr_0_3, gr_0_4, gr_0_5, gr_0_6, gr_0_7, gi_0_8, gi_0_9, pi_0_8, pi_0_9, io_0, gr_1_0, gi_1_1, gi_1_2, gi_1_3, gi_1_4, pi_1_1, pi_1_2, pi_1_3, pi_1_4, gr_1_5, gr_1_6, io_1, ld_2, st_2, gi_18_0, gi_18_1, gi_18_2, gr_18_3, gr_18_4, pi_18_0, pi_18_1, pi_18_2, io_18, ld_19, ld_20, st_19, st_20, gr_45_0, gi_45_1, gi_45_2, pi_45_1, pi_45_2, io_45, gr_240_0, gr_240_1, gr_240_2, gr_240_3, gi_240_4, pi_240_4, io_240, ld_241, st_241, ld_242, st_242, ld_243, st_243, ld_244, st_244, ld_246, st_246, ld_247, st_247, gr_245_0, gr_245_1, gi_245_2, pi_245_2, io_245, gr_6_0, gr_6_3, gr_6_4, gr_6_5, gr_6_6, gr_6_7, gr_6_8, gr_6_9, gr_6_10, gr_6_11, gr_6_12, gi_6_1, pi_6_1, gi_6_2, pi_6_2, io_6, ld_4, st_4, ld_5, st_5, ld_7, st_7, ld_8, st_8, ld_9, st_9, ld_10, st_10, ld_11, st_11, ld_12, st_12, ld_13, st_13, ld_14, st_14, ld_15, st_15, gi_3_0, gi_3_1, gi_3_2, pi_3_0, pi_3_1, pi_3_2, gr_3_3, gr_3_4, io_3, n7, a1, nn_in (show p < 7 by omega) (by decide), nn_clamp (show p < 2147483648 by omega), ← hg1, n1, em, b1, ← hg2, c1, ← hg3, n3, d1, ← hg4, e1, nn_succ]
  · have e3 : ∀ x, x ≠ 1 → x ≠ 3 → jz_up (jz_up f5 14 p v5) 3 2 (nI (p + 1)) x = g x := fun x h1 h3 => by rw [uq_far h3, E5 x h1]
    have e33 : jz_up f5 14 p v5 3 = f 3 := by rw [E5 3 (by decide), ← hg, uq_far (by decide), uq_far (by decide), uq_far (by decide), uq_far (by decide), uq_far (by decide), uq_far (by decide)]
    refine ⟨?_, ?_, ?_, ?_, ?_, ?_⟩
    · rw [uq_ne (by decide), e33]; exact q1
    · rw [uq_ne (by decide), e33]; exact q2
    · rw [uq_at, hp]; rfl
    · intro i hi
      have hi' : i < ra_np A + 1 := hi
      show _ = upd (ra_K A) (ra_np A) (nI (rd_nx t n s 0 3).1) i
      rw [← hv1, e3 4 (by decide) (by decide), ← hg, uq_far (by decide), uq_far (by decide), uq_far (by decide), uq_far (by decide), uq_far (by decide), ← hp]
      by_cases e : i = p
      · rw [e, uq_at, ud_at]
      · rw [uq_ne e, ud_ne e]; exact q4 i (by omega)
    · intro i hi
      have hi' : i < ra_np A + 1 := hi
      show _ = upd (ra_W A) (ra_np A) (nI (rd_nx t n (rd_nx t n (rd_nx t n (rd_nx t n s 0 3).2 0 (ra_ni A - 1)).2 0 30).2 0 (ra_ni A - 1)).1) i
      rw [← hv4, e3 5 (by decide) (by decide), ← hg, uq_far (by decide), ← hp]
      by_cases e : i = p
      · rw [e, uq_at, ud_at]
      · rw [uq_ne e, uq_far (by decide), uq_far (by decide), uq_far (by decide), uq_far (by decide), ud_ne e]; exact q5 i (by omega)
    · refine XD.keep (f := g) (fun j hj => e3 _ (by omega) (by omega)) ?_
      show XD g 6 (ra_nc A) (ra_np A + 1) (upd (upd (upd (upd (ra_V A) (16 + ra_np A) (nI (rd_nx t n (rd_nx t n s 0 3).2 0 (ra_ni A - 1)).1)) (23 + ra_np A) (-1)) (30 + ra_np A) (nI (rd_nx t n (rd_nx t n (rd_nx t n s 0 3).2 0 (ra_ni A - 1)).2 0 30).1)) (37 + ra_np A) (rd_bo t n (ra_nc A) (rd_nx t n (rd_nx t n (rd_nx t n (rd_nx t n s 0 3).2 0 (ra_ni A - 1)).2 0 30).2 0 (ra_ni A - 1)).2).1)
      rw [← hv2, ← hv3, ← hv5]
      have p0 : XD (jz_up f 4 p v1) 6 (ra_nc A) (ra_np A) (ra_V A) := XD.keep (fun j hj => uq_far (by omega)) q6
      have p1 := XD.put (r := 5) (p := p) (k := 16 + p) (Or.inr (Or.inr (Or.inr (Or.inr (Or.inl ⟨rfl, rfl, by omega⟩))))) h0 (by omega) p0 v2
      have p2 := XD.put (r := 6) (p := p) (k := 23 + p) (Or.inr (Or.inr (Or.inr (Or.inr (Or.inr (Or.inl ⟨rfl, rfl, by omega⟩)))))) h0 (by omega) p1 (-1)
      have p3 := XD.put (r := 7) (p := p) (k := 30 + p) (Or.inr (Or.inr (Or.inr (Or.inr (Or.inr (Or.inr (Or.inl ⟨rfl, rfl, by omega⟩))))))) h0 (by omega) p2 v3
      have p4 : XD (jz_up (jz_up (jz_up (jz_up (jz_up f 4 p v1) 11 p v2) 12 p (-1)) 13 p v3) 5 p v4) 6 (ra_nc A) (ra_np A) (upd (upd (upd (ra_V A) (16 + p) v2) (23 + p) (-1)) (30 + p) v3) := XD.keep (fun j hj => uq_far (by omega)) p3
      have p5 := XD.put (r := 8) (p := p) (k := 37 + p) (Or.inr (Or.inr (Or.inr (Or.inr (Or.inr (Or.inr (Or.inr (Or.inl ⟨rfl, rfl, by omega⟩)))))))) h0 (by omega) p4 v5
      rw [← hg]
      rw [← hp] at p5 hpn ⊢
      refine XD.extp p5 ?_ ?_ ?_ ?_ ?_
      · rw [uq_far (by decide), uq_far (by decide), uq_far (by decide), uq_far (by decide), uq_at, ud_ne (by omega), ud_ne (by omega), ud_ne (by omega), ud_at]
      · rw [uq_far (by decide), uq_far (by decide), uq_far (by decide), uq_at, ud_ne (by omega), ud_ne (by omega), ud_at]
      · rw [uq_far (by decide), uq_far (by decide), uq_at, ud_ne (by omega), ud_at]
      · rw [uq_at, ud_at]
      · rw [uq_far (by decide), uq_far (by decide), uq_far (by decide), uq_far (by decide), uq_far (by decide), uq_far (by decide), ud_ne (by omega), ud_ne (by omega), ud_ne (by omega), ud_ne (by omega)]; exact hpn
  · intro x hx
    rw [uq_far (by omega), E5 x (by omega), ← hg, uq_far (by omega), uq_far (by omega), uq_far (by omega), uq_far (by omega), uq_far (by omega), uq_far (by omega)]
end
