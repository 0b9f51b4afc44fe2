def st_turn (σ : sp_st) : sp_st := st_withNow (st_chance σ) (sp_rds (st_ni σ) (st_nc σ) (st_np σ) (st_K σ) (st_W σ) (st_now (st_chance σ)) 1)
def st_dr (σ : sp_st) : Nat → sp_st
  | 0 => σ
  | i + 1 => st_turn (st_dr σ i)
theorem chance_id {σ : sp_st} (h0 : st_np σ = 0 ∨ st_nc σ = 0) : st_chance σ = σ := by
  unfold st_chance sp_ch
  simp only [h0, if_true]
  rfl
theorem chance_ok {σ : sp_st} {hb : Nat} (ho : StOK σ) (hk : DayOK (st_ni σ) (st_nc σ) (st_np σ) hb (st_now σ).1) (hhb : hb ≤ 9120) : StOK (st_chance σ) ∧ DayOK (st_ni σ) (st_nc σ) (st_np σ) hb (st_now (st_chance σ)).1 := by
  have h := ch_ok ho.1.2.1 ho.1.2.2.1 hk ho.2.2.2.1
  exact ⟨⟨ho.1, ⟨h.1.mono hhb, ho.2.1.2⟩, ho.2.2.1, h.2, ho.2.2.2.2⟩, h.1⟩
theorem turn_ok {σ : sp_st} {hb : Nat} (ho : StOK σ) (hk : DayOK (st_ni σ) (st_nc σ) (st_np σ) hb (st_now σ).1) (hhb : hb + st_nc σ ≤ 9120) : StOK (st_turn σ) ∧ DayOK (st_ni σ) (st_nc σ) (st_np σ) (hb + st_nc σ) (st_now (st_turn σ)).1 := by
  obtain ⟨h1, h2⟩ := chance_ok ho hk (by omega)
  have h3 := rds_ok (s := st_now (st_chance σ)) ho.1 h2 1
  rw [Nat.one_mul] at h3
  exact ⟨h1.setNow ⟨h3.mono hhb, rds_some h1.2.1.2 1⟩, h3⟩
theorem dr_ok {σ : sp_st} (ho : StOK σ) (hk : DayOK (st_ni σ) (st_nc σ) (st_np σ) 9000 (st_now σ).1) : ∀ i, i ≤ 30 → StOK (st_dr σ i) ∧ DayOK (st_ni σ) (st_nc σ) (st_np σ) (9000 + i * st_nc σ) (st_now (st_dr σ i)).1 ∧ (st_dr σ i).1 = σ.1
  | 0, _ => ⟨ho, by rw [Nat.zero_mul]; exact hk, rfl⟩
  | i + 1, hi => by
    obtain ⟨h1, h2, h3⟩ := dr_ok ho hk i (by omega)
    have e1 : st_ni (st_dr σ i) = st_ni σ := by unfold st_ni; rw [h3]
    have e2 : st_nc (st_dr σ i) = st_nc σ := by unfold st_nc; rw [h3]
    have e3 : st_np (st_dr σ i) = st_np σ := by unfold st_np; rw [h3]
    have hnc := ho.1.2.1
    have hm : (i + 1) * st_nc σ ≤ 30 * 4 := Nat.mul_le_mul hi hnc
    have hs : i * st_nc σ + st_nc σ = (i + 1) * st_nc σ := (Nat.succ_mul i (st_nc σ)).symm
    obtain ⟨h4, h5⟩ := turn_ok (hb := 9000 + i * st_nc σ) h1 (by rw [e1, e2, e3]; exact h2) (by rw [e2]; omega)
    refine ⟨h4, ?_, h3⟩
    rw [e1, e2, e3, Nat.add_assoc, hs] at h5
    exact h5
theorem x_turn {f : Nat → Nat → Int32} {σ : sp_st} {hb : Nat} (hf : RX f σ) (ho : StOK σ) (hk : DayOK (st_ni σ) (st_nc σ) (st_np σ) hb (st_now σ).1) (hhb : hb ≤ 9120) : ∃ f1 f2, MX8_chance [.ref 0] (SG, f) = some ((), (SG, f1)) ∧ MX0_blowRounds [.ref 21, .int 1] (SG, f1) = some ((), (SG, f2)) ∧ RX f2 (st_turn σ) ∧ ∀ a, 274 ≤ a → f2 a = f a := by
  obtain ⟨f1, a1, a2, a3⟩ := x_chance hf ho
  obtain ⟨h1, h2⟩ := chance_ok ho hk hhb
  obtain ⟨f2, b1, b2, b3, b4⟩ := x_rounds (n := 1) day_now (fun j hj => by omega) a2.1 ho.1 a2.2.1 h2 (by decide) (by omega)
  exact ⟨f1, f2, a1, b1, RX.setNow a2 (fun x hx => b4 x (by omega)) b2, fun a ha => by rw [b4 a (by omega), a3 a ha]⟩
theorem m_turn {f : Nat → Nat → Int32} {σ : sp_st} {hb : Nat} (hf : RM f σ) (ho : StOK σ) (hk : DayOK (st_ni σ) (st_nc σ) (st_np σ) hb (st_now σ).1) (hhb : hb ≤ 9120) (L : jz_L) (hL : L.head? = some (some (.ref 274))) : ∃ f1 f2 r, (js_if (jb_and (je_bin jo_gt (je_fi 9 6 (je_lor 0)) (je_int 0)) (je_bin jo_gt (je_fi 9 2 (je_lor 0)) (je_int 0))) (js_call (jz_isO 9 0) MX9_chance (jg_cons Value.ref (je_lor 0) jg_nil)) js_skip) L (SG, f) = some (.inl (L, (SG, f1))) ∧ MX9_pass [.ref 274] (SG, f1) = some (r, (SG, f2)) ∧ RM f2 (st_turn σ) ∧ ∀ a, a < 274 → f2 a = f a := by
  have hlor : ∀ h, je_lor 0 L h = some (274, h) := by
    intro h
    cases L with
    | nil => cases hL
    | cons x l =>
      simp only [List.head?_cons, Option.some.injEq] at hL
      subst hL
      rfl
  have hn2 := hf.1.2.2.1
  have hn1 := hf.1.2.1
  have hnc := ho.1.2.1
  have hnp := ho.1.2.2.1
  have step : ∀ f1, RM f1 (st_chance σ) → (∀ a, a < 274 → f1 a = f a) → ∃ f2 r, MX9_pass [.ref 274] (SG, f1) = some (r, (SG, f2)) ∧ RM f2 (st_turn σ) ∧ ∀ a, a < 274 → f2 a = f a := by
    intro f1 a2 a3
    obtain ⟨h1, h2⟩ := chance_ok ho hk hhb
    obtain ⟨g, p1, p2, p3⟩ := m_pass (f := f1) (g := f1 283) a2.1 ho.1 a2.2.1 h2 (by omega)
    rw [wN_self] at p1
    exact ⟨wN f1 g, _, p1, RM.setNow a2 (fun x hx => wN_o f1 g hx) (by rw [wN_n]; exact p2), fun a ha => by rw [wN_o f1 g (by omega), a3 a ha]⟩
  by_cases h0 : st_np σ = 0 ∨ st_nc σ = 0
  · obtain ⟨f2, r, b1, b2, b3⟩ := step f (by rw [chance_id h0]; exact hf) (fun a _ => rfl)
    refine ⟨f, f2, r, ?_, b1, b2, b3⟩
    by_cases h1 : st_np σ = 0
    · have hz : f 274 6 = 0 := by rw [hn2, h1]; rfl
      simp only [ev_seq, ev_if, ev_ret, ev_retv, ev_skip, ev_pop, ev_puti, ev_putz, ev_updf, ev_st, ev_stz, ev_upda, ev_scall, ev_int, ev_lng, ev_bin, ev_un, ev_div, ev_ldiv, ev_fi, ev_fr, ev_ld, ev_lr, ev_and, ev_or, ev_not, ev_of, ev_ite, ev_gnil, ev_gcons, ev_call, Option.bind_some, ev_loc0, ev_seti0, ev_setr0, ev_inc0, ev_loc1, ev_seti1, ev_setr1, ev_inc1, ev_loc2, ev_seti2, ev_setr2, ev_inc2, ev_loc3, ev_seti3, ev_setr3, ev_inc3, ev_loc4, ev_seti4, ev_setr4, ev_inc4, ev_loc5, ev_seti5, ev_setr5, ev_inc5, ev_loc6, ev_seti6, ev_setr6, ev_inc6, ev_loc7, ev_seti7, ev_setr7, ev_inc7, ev_loc8, ev_seti8, ev_setr8, ev_inc8, ev_lor0, ev_lor1, ev_lor2, ev_lor3, ev_isS, ok_same, List.length_cons, List.length_nil, Nat.zero_add, Nat.reduceAdd, BEq.rfl, if_true, io_274, jo_lt, jo_le, jo_gt, jo_ge, jo_eq, jo_ne, ent_1_1, ent_2_1, ent_2_2, ent_3_1, ent_3_2, ent_3_3, ent_4_1, ent_4_2, ent_4_3, ent_4_4, ent_5_1, ent_5_2, ent_5_3, ent_5_4, ent_5_5, ent_6_1, ent_6_2, ent_6_3, ent_6_4, ent_6_5, ent_6_6, ent_7_1, ent_7_2, ent_7_3, ent_7_4, ent_7_5, ent_7_6, ent_8_1, ent_8_2, ent_8_3, ent_8_4, ent_8_5, ent_8_6, ent_9_1, ent_9_2, ent_9_3, ent_9_4, ent_9_5, ent_9_6, if_false, decide_true, decide_false, Bool.false_eq_true, and_self, and_true, true_and, and_false, false_and, or_true, true_or, or_false, false_or, decide_eq_true_eq, not_true_eq_false, not_false_eq_true, jo_b_dec, Bool.not_true, Bool.not_false, gi_274_0, pi_274_0, gi_274_1, pi_274_1, gi_274_2, pi_274_2, gr_274_3, gr_274_4, gr_274_5, gi_274_6, pi_274_6, gr_274_7, gr_274_8, gr_274_9, gr_274_10, gr_274_11, gr_274_12, gi_274_13, pi_274_13, gr_274_14, gi_274_15, pi_274_15, gi_274_16, pi_274_16, gi_274_17, pi_274_17, gi_274_18, pi_274_18, gi_274_19, pi_274_19, gi_274_20, pi_274_20, gi_274_21, pi_274_21, gi_274_22, pi_274_22, gr_274_23, gr_274_24, gr_274_25, gi_274_26, pi_274_26, gr_274_27, gr_274_28, gr_274_29, gr_274_30, gr_274_31, gi_274_32, pi_274_32, gr_274_33, gr_274_34, gi_274_35, pi_274_35, gr_274_36, gr_274_37, gr_274_38, gr_274_39, gi_274_40, pi_274_40, gr_274_41, gr_274_42, gr_274_43, gr_274_44, ld_275, st_275, ld_276, st_276, ld_277, st_277, ld_278, st_278, ld_279, st_279, ld_280, st_280, ld_281, st_281, ld_282, st_282, ld_283, st_283, ld_284, st_284, ld_285, st_285, ld_286, st_286, ld_287, st_287, ld_288, st_288, ld_289, st_289, ld_290, st_290, ld_291, st_291, ld_292, st_292, ld_293, st_293, ld_294, st_294, ld_295, st_295, ld_296, st_296, ld_297, st_297, ld_298, st_298, ld_299, st_299, ld_300, st_300, ld_301, st_301, ld_302, st_302, hlor, hz, Int32.lt_irrefl]
    · have hz : f 274 2 = 0 := by rw [hn1, h0.resolve_left h1]; rfl
      have hz2 : (0 : Int32) < nI (st_np σ) := (nn_lt (m := 0) (by decide) (by omega)).mpr (by omega)
      simp only [ev_seq, ev_if, ev_ret, ev_retv, ev_skip, ev_pop, ev_puti, ev_putz, ev_updf, ev_st, ev_stz, ev_upda, ev_scall, ev_int, ev_lng, ev_bin, ev_un, ev_div, ev_ldiv, ev_fi, ev_fr, ev_ld, ev_lr, ev_and, ev_or, ev_not, ev_of, ev_ite, ev_gnil, ev_gcons, ev_call, Option.bind_some, ev_loc0, ev_seti0, ev_setr0, ev_inc0, ev_loc1, ev_seti1, ev_setr1, ev_inc1, ev_loc2, ev_seti2, ev_setr2, ev_inc2, ev_loc3, ev_seti3, ev_setr3, ev_inc3, ev_loc4, ev_seti4, ev_setr4, ev_inc4, ev_loc5, ev_seti5, ev_setr5, ev_inc5, ev_loc6, ev_seti6, ev_setr6, ev_inc6, ev_loc7, ev_seti7, ev_setr7, ev_inc7, ev_loc8, ev_seti8, ev_setr8, ev_inc8, ev_lor0, ev_lor1, ev_lor2, ev_lor3, ev_isS, ok_same, List.length_cons, List.length_nil, Nat.zero_add, Nat.reduceAdd, BEq.rfl, if_true, io_274, jo_lt, jo_le, jo_gt, jo_ge, jo_eq, jo_ne, ent_1_1, ent_2_1, ent_2_2, ent_3_1, ent_3_2, ent_3_3, ent_4_1, ent_4_2, ent_4_3, ent_4_4, ent_5_1, ent_5_2, ent_5_3, ent_5_4, ent_5_5, ent_6_1, ent_6_2, ent_6_3, ent_6_4, ent_6_5, ent_6_6, ent_7_1, ent_7_2, ent_7_3, ent_7_4, ent_7_5, ent_7_6, ent_8_1, ent_8_2, ent_8_3, ent_8_4, ent_8_5, ent_8_6, ent_9_1, ent_9_2, ent_9_3, ent_9_4, ent_9_5, ent_9_6, if_false, decide_true, decide_false, Bool.false_eq_true, and_self, and_true, true_and, and_false, false_and, or_true, true_or, or_false, false_or, decide_eq_true_eq, not_true_eq_false, not_false_eq_true, jo_b_dec, Bool.not_true, Bool.not_false, gi_274_0, pi_274_0, gi_274_1, pi_274_1, gi_274_2, pi_274_2, gr_274_3, gr_274_4, gr_274_5, gi_274_6, pi_274_6, gr_274_7, gr_274_8, gr_274_9, gr_274_10, gr_274_11, gr_274_12, gi_274_13, pi_274_13, gr_274_14, gi_274_15, pi_274_15, gi_274_16, pi_274_16, gi_274_17, pi_274_17, gi_274_18, pi_274_18, gi_274_19, pi_274_19, gi_274_20, pi_274_20, gi_274_21, pi_274_21, gi_274_22, pi_274_22, gr_274_23, gr_274_24, gr_274_25, gi_274_26, pi_274_26, gr_274_27, gr_274_28, gr_274_29, gr_274_30, gr_274_31, gi_274_32, pi_274_32, gr_274_33, gr_274_34, gi_274_35, pi_274_35, gr_274_36, gr_274_37, gr_274_38, gr_274_39, gi_274_40, pi_274_40, gr_274_41, gr_274_42, gr_274_43, gr_274_44, ld_275, st_275, ld_276, st_276, ld_277, st_277, ld_278, st_278, ld_279, st_279, ld_280, st_280, ld_281, st_281, ld_282, st_282, ld_283, st_283, ld_284, st_284, ld_285, st_285, ld_286, st_286, ld_287, st_287, ld_288, st_288, ld_289, st_289, ld_290, st_290, ld_291, st_291, ld_292, st_292, ld_293, st_293, ld_294, st_294, ld_295, st_295, ld_296, st_296, ld_297, st_297, ld_298, st_298, ld_299, st_299, ld_300, st_300, ld_301, st_301, ld_302, st_302, hlor, hz, hn2, hz2, Int32.lt_irrefl]
  · obtain ⟨f1, a1, a2, a3⟩ := m_chance hf ho (by omega) (by omega)
    obtain ⟨f2, r, b1, b2, b3⟩ := step f1 a2 a3
    refine ⟨f1, f2, r, ?_, b1, b2, b3⟩
    have hz2 : (0 : Int32) < nI (st_np σ) := (nn_lt (m := 0) (by decide) (by omega)).mpr (by omega)
    have hz1 : (0 : Int32) < nI (st_nc σ) := (nn_lt (m := 0) (by decide) (by omega)).mpr (by omega)
    simp only [ev_seq, ev_if, ev_ret, ev_retv, ev_skip, ev_pop, ev_puti, ev_putz, ev_updf, ev_st, ev_stz, ev_upda, ev_scall, ev_int, ev_lng, ev_bin, ev_un, ev_div, ev_ldiv, ev_fi, ev_fr, ev_ld, ev_lr, ev_and, ev_or, ev_not, ev_of, ev_ite, ev_gnil, ev_gcons, ev_call, Option.bind_some, ev_loc0, ev_seti0, ev_setr0, ev_inc0, ev_loc1, ev_seti1, ev_setr1, ev_inc1, ev_loc2, ev_seti2, ev_setr2, ev_inc2, ev_loc3, ev_seti3, ev_setr3, ev_inc3, ev_loc4, ev_seti4, ev_setr4, ev_inc4, ev_loc5, ev_seti5, ev_setr5, ev_inc5, ev_loc6, ev_seti6, ev_setr6, ev_inc6, ev_loc7, ev_seti7, ev_setr7, ev_inc7, ev_loc8, ev_seti8, ev_setr8, ev_inc8, ev_lor0, ev_lor1, ev_lor2, ev_lor3, ev_isS, ok_same, List.length_cons, List.length_nil, Nat.zero_add, Nat.reduceAdd, BEq.rfl, if_true, io_274, jo_lt, jo_le, jo_gt, jo_ge, jo_eq, jo_ne, ent_1_1, ent_2_1, ent_2_2, ent_3_1, ent_3_2, ent_3_3, ent_4_1, ent_4_2, ent_4_3, ent_4_4, ent_5_1, ent_5_2, ent_5_3, ent_5_4, ent_5_5, ent_6_1, ent_6_2, ent_6_3, ent_6_4, ent_6_5, ent_6_6, ent_7_1, ent_7_2, ent_7_3, ent_7_4, ent_7_5, ent_7_6, ent_8_1, ent_8_2, ent_8_3, ent_8_4, ent_8_5, ent_8_6, ent_9_1, ent_9_2, ent_9_3, ent_9_4, ent_9_5, ent_9_6, if_false, decide_true, decide_false, Bool.false_eq_true, and_self, and_true, true_and, and_false, false_and, or_true, true_or, or_false, false_or, decide_eq_true_eq, not_true_eq_false, not_false_eq_true, jo_b_dec, Bool.not_true, Bool.not_false, gi_274_0, pi_274_0, gi_274_1, pi_274_1, gi_274_2, pi_274_2, gr_274_3, gr_274_4, gr_274_5, gi_274_6, pi_274_6, gr_274_7, gr_274_8, gr_274_9, gr_274_10, gr_274_11, gr_274_12, gi_274_13, pi_274_13, gr_274_14, gi_274_15, pi_274_15, gi_274_16, pi_274_16, gi_274_17, pi_274_17, gi_274_18, pi_274_18, gi_274_19, pi_274_19, gi_274_20, pi_274_20, gi_274_21, pi_274_21, gi_274_22, pi_274_22, gr_274_23, gr_274_24, gr_274_25, gi_274_26, pi_274_26, gr_274_27, gr_274_28, gr_274_29, gr_274_30, gr_274_31, gi_274_32, pi_274_32, gr_274_33, gr_274_34, gi_274_35, pi_274_35, gr_274_36, gr_274_37, gr_274_38, gr_274_39, gi_274_40, pi_274_40, gr_274_41, gr_274_42, gr_274_43, gr_274_44, ld_275, st_275, ld_276, st_276, ld_277, st_277, ld_278, st_278, ld_279, st_279, ld_280, st_280, ld_281, st_281, ld_282, st_282, ld_283, st_283, ld_284, st_284, ld_285, st_285, ld_286, st_286, ld_287, st_287, ld_288, st_288, ld_289, st_289, ld_290, st_290, ld_291, st_291, ld_292, st_292, ld_293, st_293, ld_294, st_294, ld_295, st_295, ld_296, st_296, ld_297, st_297, ld_298, st_298, ld_299, st_299, ld_300, st_300, ld_301, st_301, ld_302, st_302, hlor, hn2, hn1, hz2, hz1, a1]
