/-! the past of the class: push, pop -/
def st_withNow (σ : sp_st) (s : sp_S) : sp_st := (σ.1, s, σ.2.2)
def st_withPast (σ : sp_st) (ps : List sp_S) : sp_st := (σ.1, σ.2.1, σ.2.2.1, σ.2.2.2.1, σ.2.2.2.2.1, σ.2.2.2.2.2.1, σ.2.2.2.2.2.2.1, ps, σ.2.2.2.2.2.2.2.2)
theorem XPast.keep {f f' : Nat → Nat → Int32} {nc np : Nat} {ps : List sp_S} (h : XPast f nc np ps) (hk : ∀ x, 45 ≤ x → x < 239 → f' x = f x) : XPast f' nc np ps := by
  obtain ⟨k, k16, h1, h2, h3⟩ := h
  refine ⟨k, k16, by rw [hk 45 (by decide) (by decide)]; exact h1, by rw [hk 45 (by decide) (by decide)]; exact h2, fun j s hs => ?_⟩
  have hm : (k + 16 - ps.length + j) % 16 < 16 := Nat.mod_lt _ (by decide)
  exact XS.keep (fun i hi => hk _ (by omega) (by omega)) (h3 j s hs)
theorem XImg.keep {f f' : Nat → Nat → Int32} {nc np : Nat} {im : Nat → Option (sp_S × Nat)} (h : XImg f nc np im) (hk : ∀ x, 248 ≤ x → x < 274 → f' x = f x) : XImg f' nc np im := by
  intro i hi
  have h1 := h i hi
  rw [hk (248 + 13 * i) (by omega) (by omega)]
  refine ⟨h1.1, fun x hx => ⟨XS.keep (fun j hj => hk _ (by omega) (by omega)) (h1.2 x hx).1, (h1.2 x hx).2⟩⟩
theorem RX.setPast {f f' : Nat → Nat → Int32} {σ : sp_st} {ps : List sp_S} (h : RX f σ) (hk : ∀ x, ¬ (45 ≤ x ∧ x < 239) → f' x = f x) (hp : XPast f' (st_nc σ) (st_np σ) ps) : RX f' (st_withPast σ ps) := by
  obtain ⟨h1, h2, h3, h4, h5, h6, h7, h8, h9, h10, h11⟩ := h
  refine ⟨h1.keep (hk 18 (by omega)) (hk 19 (by omega)) (hk 20 (by omega)), XS.keep (fun j hj => hk _ (by omega)) h2, ?_, ?_, ?_, ?_, ?_, hp, XImg.keep h9 (fun x _ _ => hk x (by omega)), ?_, ?_⟩
  · rw [hk 1 (by omega), hk 2 (by omega)]; exact h3
  · rw [hk 0 (by omega)]; exact h4
  · rw [hk 0 (by omega)]; exact h5
  · rw [hk 240 (by omega), hk 241 (by omega), hk 242 (by omega), hk 243 (by omega), hk 244 (by omega)]; exact h6
  · rw [hk 245 (by omega), hk 246 (by omega), hk 247 (by omega)]; exact h7
  · obtain ⟨n, k, hb⟩ := h10
    exact ⟨n, k, hb.1, hb.2.1, by rw [hk _ (by omega)]; exact hb.2.2.1, by rw [hk _ (by omega)]; exact hb.2.2.2⟩
  · unfold XRdr
    rw [hk 6 (by omega), hk 15 (by omega), hk 16 (by omega)]; exact h11
theorem RX.setNow {f f' : Nat → Nat → Int32} {σ : sp_st} {s : sp_S} (h : RX f σ) (hk : ∀ x, ¬ (21 ≤ x ∧ x < 33) → f' x = f x) (hp : XS f' 21 (st_nc σ) (st_np σ) s) : RX f' (st_withNow σ s) := by
  obtain ⟨h1, h2, h3, h4, h5, h6, h7, h8, h9, h10, h11⟩ := h
  refine ⟨h1.keep (hk 18 (by omega)) (hk 19 (by omega)) (hk 20 (by omega)), hp, ?_, ?_, ?_, ?_, ?_, XPast.keep h8 (fun x _ _ => hk x (by omega)), XImg.keep h9 (fun x _ _ => hk x (by omega)), ?_, ?_⟩
  · rw [hk 1 (by omega), hk 2 (by omega)]; exact h3
  · rw [hk 0 (by omega)]; exact h4
  · rw [hk 0 (by omega)]; exact h5
  · rw [hk 240 (by omega), hk 241 (by omega), hk 242 (by omega), hk 243 (by omega), hk 244 (by omega)]; exact h6
  · rw [hk 245 (by omega), hk 246 (by omega), hk 247 (by omega)]; exact h7
  · obtain ⟨n, k, hb⟩ := h10
    exact ⟨n, k, hb.1, hb.2.1, by rw [hk _ (by omega)]; exact hb.2.2.1, by rw [hk _ (by omega)]; exact hb.2.2.2⟩
  · unfold XRdr
    rw [hk 6 (by omega), hk 15 (by omega), hk 16 (by omega)]; exact h11
theorem lr_46 (f : Nat → Nat → Int32) {k : Nat} (hk : k < 16) : jz_lr 3 46 (nI k) (SG, f) = some (47 + 12 * k) := by
  rcases (show k = 0 ∨ k = 1 ∨ k = 2 ∨ k = 3 ∨ k = 4 ∨ k = 5 ∨ k = 6 ∨ k = 7 ∨ k = 8 ∨ k = 9 ∨ k = 10 ∨ k = 11 ∨ k = 12 ∨ k = 13 ∨ k = 14 ∨ k = 15 by omega) with rfl | rfl | rfl | rfl | rfl | rfl | rfl | rfl | rfl | rfl | rfl | rfl | rfl | rfl | rfl | rfl <;> rfl
theorem lr_239 (f : Nat → Nat → Int32) {k : Nat} (hk : k < 2) : jz_lr 4 239 (nI k) (SG, f) = some (248 + 13 * k) := by
  rcases (show k = 0 ∨ k = 1 by omega) with rfl | rfl <;> rfl
def sp_psh (ps : List sp_S) (s : sp_S) : List sp_S := (if ps.length < 16 then ps else ps.drop 1) ++ [s]
theorem psh_len {ps : List sp_S} {s : sp_S} (h : ps.length ≤ 16) : (sp_psh ps s).length = min (ps.length + 1) 16 := by
  unfold sp_psh
  split <;> simp only [List.length_append, List.length_cons, List.length_nil, List.length_drop] <;> omega
theorem psh_get {ps : List sp_S} {s t : sp_S} (h : ps.length ≤ 16) {j : Nat} (hj : (sp_psh ps s)[j]? = some t) : (j = min ps.length 15 ∧ t = s) ∨ (j < min ps.length 15 ∧ ps[if ps.length < 16 then j else j + 1]? = some t) := by
  unfold sp_psh at hj
  by_cases hl : ps.length < 16
  · rw [if_pos hl] at hj ⊢
    rw [List.getElem?_append] at hj
    split at hj
    · right; exact ⟨by omega, hj⟩
    · next h1 =>
      have := (List.getElem?_eq_some_iff.mp hj).1
      simp only [List.length_cons, List.length_nil] at this
      have e : j - ps.length = 0 := by omega
      rw [e] at hj
      left; exact ⟨by omega, by injection hj with hj; exact hj.symm⟩
  · rw [if_neg hl] at hj ⊢
    rw [List.getElem?_append] at hj
    split at hj
    · next h1 =>
      rw [List.length_drop] at h1
      rw [List.getElem?_drop] at hj
      right; exact ⟨by omega, by rw [Nat.add_comm j 1]; exact hj⟩
    · next h1 =>
      have := (List.getElem?_eq_some_iff.mp hj).1
      simp only [List.length_cons, List.length_nil, List.length_drop] at this h1
      have e : j - (ps.drop 1).length = 0 := by rw [List.length_drop]; omega
      rw [e] at hj
      left; exact ⟨by omega, by injection hj with hj; exact hj.symm⟩
theorem x_push {f : Nat → Nat → Int32} {σ : sp_st} (hf : RX f σ) (ho : StOK σ) : ∃ f', MX4_push [.ref 45, .ref 21] (SG, f) = some ((), (SG, f')) ∧ RX f' (st_withPast σ (sp_psh (st_ps σ) (st_now σ))) ∧ ∀ x, ¬ (45 ≤ x ∧ x < 239) → f' x = f x := by
  have hnc := ho.1.2.1
  have hnp := ho.1.2.2.1
  obtain ⟨k, hk, h1, h2, h3⟩ := hf.2.2.2.2.2.2.2.1
  have hl := ho.2.2.2.2.2.2.1.1
  obtain ⟨f1, c1, c2, c3⟩ := x_copyFrom (day_past k hk) day_now (by omega) f
  have f45 : f1 45 = f 45 := c2 45 (by omega)
  let k' := if k + 1 < 16 then k + 1 else 0
  let n' := min ((st_ps σ).length + 1) 16
  have ek : (if nI k + 1 < 16 then nI k + 1 else (0 : Int32)) = nI k' := by
    rw [nn_succ]
    have this : nI (k + 1) < (16 : Int32) ↔ k + 1 < 16 := nn_lt (m := k + 1) (n := 16) (by omega) (by decide)
    by_cases h : k + 1 < 16
    · rw [if_pos (this.mpr h)]; simp only [k', if_pos h]
    · rw [if_neg (fun h' => h (this.mp h'))]; simp only [k', if_neg h]; rfl
  have en : (if (16 : Int32) < nI (st_ps σ).length + 1 then 16 else nI (st_ps σ).length + 1) = nI n' := by
    rw [nn_succ]
    have this : (16 : Int32) < nI ((st_ps σ).length + 1) ↔ 16 < (st_ps σ).length + 1 := nn_lt (m := 16) (n := (st_ps σ).length + 1) (by decide) (by omega)
    by_cases h : 16 < (st_ps σ).length + 1
    · rw [if_pos (this.mpr h)]; simp only [n', Nat.min_eq_right (show 16 ≤ (st_ps σ).length + 1 by omega)]; rfl
    · rw [if_neg (fun h' => h (this.mp h'))]; simp only [n', Nat.min_eq_left (show (st_ps σ).length + 1 ≤ 16 by omega)]
  refine ⟨jz_up (jz_up f1 45 2 (nI k')) 45 1 (nI n'), ?_, ?_, ?_⟩
  · refine run_V rfl ⟨rfl, Nat.le_of_ble_eq_true rfl⟩ ?_
    unfold BX4_push
    refine seq_some [some (.ref 45), some (.ref 21)] (SG, jz_up (jz_up f1 45 2 (nI k')) 45 1 (nI n')) ?_ rfl
    refine seq_some [some (.ref 45), some (.ref 21)] (SG, f1) ?_ ?_
    · simp only [ev_seq, ev_if, ev_ret, ev_retv, ev_skip, ev_pop, ev_puti, ev_putz, ev_updf, ev_st, ev_stz, ev_upda, ev_scall, ev_int, ev_lng, ev_bin, ev_un, ev_div, ev_ldiv, ev_fi, ev_fr, ev_ld, ev_lr, ev_and, ev_or, ev_not, ev_of, ev_ite, ev_gnil, ev_gcons, ev_call, Option.bind_some, ev_loc0, ev_seti0, ev_setr0, ev_inc0, ev_loc1, ev_seti1, ev_setr1, ev_inc1, ev_loc2, ev_seti2, ev_setr2, ev_inc2, ev_loc3, ev_seti3, ev_setr3, ev_inc3, ev_loc4, ev_seti4, ev_setr4, ev_inc4, ev_loc5, ev_seti5, ev_setr5, ev_inc5, ev_loc6, ev_seti6, ev_setr6, ev_inc6, ev_loc7, ev_seti7, ev_setr7, ev_inc7, ev_loc8, ev_seti8, ev_setr8, ev_inc8, ev_lor0, ev_lor1, ev_lor2, ev_lor3, ev_isS, ok_same, List.length_cons, List.length_nil, Nat.zero_add, Nat.reduceAdd, BEq.rfl, if_true, io_274, jo_lt, jo_le, jo_gt, jo_ge, jo_eq, jo_ne, ent_1_1, ent_2_1, ent_2_2, ent_3_1, ent_3_2, ent_3_3, ent_4_1, ent_4_2, ent_4_3, ent_4_4, ent_5_1, ent_5_2, ent_5_3, ent_5_4, ent_5_5, ent_6_1, ent_6_2, ent_6_3, ent_6_4, ent_6_5, ent_6_6, ent_7_1, ent_7_2, ent_7_3, ent_7_4, ent_7_5, ent_7_6, ent_8_1, ent_8_2, ent_8_3, ent_8_4, ent_8_5, ent_8_6, ent_9_1, ent_9_2, ent_9_3, ent_9_4, ent_9_5, ent_9_6, if_false, decide_true, decide_false, Bool.false_eq_true, and_self, and_true, true_and, and_false, false_and, or_true, true_or, or_false, false_or, decide_eq_true_eq, not_true_eq_false, not_false_eq_true, jo_b_dec, Bool.not_true, Bool.not_false, gr_0_0, gr_0_1, gr_0_2, gr_0_3, gr_0_4, gr_0_5, gr_0_6, gr_0_7, gi_0_8, gi_0_9, pi_0_8, pi_0_9, io_0, gr_1_0, gi_1_1, gi_1_2, gi_1_3, gi_1_4, pi_1_1, pi_1_2, pi_1_3, pi_1_4, gr_1_5, gr_1_6, io_1, ld_2, st_2, gi_18_0, gi_18_1, gi_18_2, gr_18_3, gr_18_4, pi_18_0, pi_18_1, pi_18_2, io_18, ld_19, ld_20, st_19, st_20, gr_45_0, gi_45_1, gi_45_2, pi_45_1, pi_45_2, io_45, gr_240_0, gr_240_1, gr_240_2, gr_240_3, gi_240_4, pi_240_4, io_240, ld_241, st_241, ld_242, st_242, ld_243, st_243, ld_244, st_244, ld_246, st_246, ld_247, st_247, gr_245_0, gr_245_1, gi_245_2, pi_245_2, io_245, h2, lr_46 f hk, dio (day_past k hk), c1]
    refine seq_some [some (.ref 45), some (.ref 21)] (SG, jz_up f1 45 2 (nI k')) ?_ ?_
    · rw [← ek]
      by_cases h : nI k + 1 < 16
      · simp only [ev_seq, ev_if, ev_ret, ev_retv, ev_skip, ev_pop, ev_puti, ev_putz, ev_updf, ev_st, ev_stz, ev_upda, ev_scall, ev_int, ev_lng, ev_bin, ev_un, ev_div, ev_ldiv, ev_fi, ev_fr, ev_ld, ev_lr, ev_and, ev_or, ev_not, ev_of, ev_ite, ev_gnil, ev_gcons, ev_call, Option.bind_some, ev_loc0, ev_seti0, ev_setr0, ev_inc0, ev_loc1, ev_seti1, ev_setr1, ev_inc1, ev_loc2, ev_seti2, ev_setr2, ev_inc2, ev_loc3, ev_seti3, ev_setr3, ev_inc3, ev_loc4, ev_seti4, ev_setr4, ev_inc4, ev_loc5, ev_seti5, ev_setr5, ev_inc5, ev_loc6, ev_seti6, ev_setr6, ev_inc6, ev_loc7, ev_seti7, ev_setr7, ev_inc7, ev_loc8, ev_seti8, ev_setr8, ev_inc8, ev_lor0, ev_lor1, ev_lor2, ev_lor3, ev_isS, ok_same, List.length_cons, List.length_nil, Nat.zero_add, Nat.reduceAdd, BEq.rfl, if_true, io_274, jo_lt, jo_le, jo_gt, jo_ge, jo_eq, jo_ne, ent_1_1, ent_2_1, ent_2_2, ent_3_1, ent_3_2, ent_3_3, ent_4_1, ent_4_2, ent_4_3, ent_4_4, ent_5_1, ent_5_2, ent_5_3, ent_5_4, ent_5_5, ent_6_1, ent_6_2, ent_6_3, ent_6_4, ent_6_5, ent_6_6, ent_7_1, ent_7_2, ent_7_3, ent_7_4, ent_7_5, ent_7_6, ent_8_1, ent_8_2, ent_8_3, ent_8_4, ent_8_5, ent_8_6, ent_9_1, ent_9_2, ent_9_3, ent_9_4, ent_9_5, ent_9_6, if_false, decide_true, decide_false, Bool.false_eq_true, and_self, and_true, true_and, and_false, false_and, or_true, true_or, or_false, false_or, decide_eq_true_eq, not_true_eq_false, not_false_eq_true, jo_b_dec, Bool.not_true, Bool.not_false, gr_0_0, gr_0_1, gr_0_2, gr_0_3, gr_0_4, gr_0_5, gr_0_6, gr_0_7, gi_0_8, gi_0_9, pi_0_8, pi_0_9, io_0, gr_1_0, gi_1_1, gi_1_2, gi_1_3, gi_1_4, pi_1_1, pi_1_2, pi_1_3, pi_1_4, gr_1_5, gr_1_6, io_1, ld_2, st_2, gi_18_0, gi_18_1, gi_18_2, gr_18_3, gr_18_4, pi_18_0, pi_18_1, pi_18_2, io_18, ld_19, ld_20, st_19, st_20, gr_45_0, gi_45_1, gi_45_2, pi_45_1, pi_45_2, io_45, gr_240_0, gr_240_1, gr_240_2, gr_240_3, gi_240_4, pi_240_4, io_240, ld_241, st_241, ld_242, st_242, ld_243, st_243, ld_244, st_244, ld_246, st_246, ld_247, st_247, gr_245_0, gr_245_1, gi_245_2, pi_245_2, io_245, f45, h2, h]
      · simp only [ev_seq, ev_if, ev_ret, ev_retv, ev_skip, ev_pop, ev_puti, ev_putz, ev_updf, ev_st, ev_stz, ev_upda, ev_scall, ev_int, ev_lng, ev_bin, ev_un, ev_div, ev_ldiv, ev_fi, ev_fr, ev_ld, ev_lr, ev_and, ev_or, ev_not, ev_of, ev_ite, ev_gnil, ev_gcons, ev_call, Option.bind_some, ev_loc0, ev_seti0, ev_setr0, ev_inc0, ev_loc1, ev_seti1, ev_setr1, ev_inc1, ev_loc2, ev_seti2, ev_setr2, ev_inc2, ev_loc3, ev_seti3, ev_setr3, ev_inc3, ev_loc4, ev_seti4, ev_setr4, ev_inc4, ev_loc5, ev_seti5, ev_setr5, ev_inc5, ev_loc6, ev_seti6, ev_setr6, ev_inc6, ev_loc7, ev_seti7, ev_setr7, ev_inc7, ev_loc8, ev_seti8, ev_setr8, ev_inc8, ev_lor0, ev_lor1, ev_lor2, ev_lor3, ev_isS, ok_same, List.length_cons, List.length_nil, Nat.zero_add, Nat.reduceAdd, BEq.rfl, if_true, io_274, jo_lt, jo_le, jo_gt, jo_ge, jo_eq, jo_ne, ent_1_1, ent_2_1, ent_2_2, ent_3_1, ent_3_2, ent_3_3, ent_4_1, ent_4_2, ent_4_3, ent_4_4, ent_5_1, ent_5_2, ent_5_3, ent_5_4, ent_5_5, ent_6_1, ent_6_2, ent_6_3, ent_6_4, ent_6_5, ent_6_6, ent_7_1, ent_7_2, ent_7_3, ent_7_4, ent_7_5, ent_7_6, ent_8_1, ent_8_2, ent_8_3, ent_8_4, ent_8_5, ent_8_6, ent_9_1, ent_9_2, ent_9_3, ent_9_4, ent_9_5, ent_9_6, if_false, decide_true, decide_false, Bool.false_eq_true, and_self, and_true, true_and, and_false, false_and, or_true, true_or, or_false, false_or, decide_eq_true_eq, not_true_eq_false, not_false_eq_true, jo_b_dec, Bool.not_true, Bool.not_false, gr_0_0, gr_0_1, gr_0_2, gr_0_3, gr_0_4, gr_0_5, gr_0_6, gr_0_7, gi_0_8, gi_0_9, pi_0_8, pi_0_9, io_0, gr_1_0, gi_1_1, gi_1_2, gi_1_3, gi_1_4, pi_1_1, pi_1_2, pi_1_3, pi_1_4, gr_1_5, gr_1_6, io_1, ld_2, st_2, gi_18_0, gi_18_1, gi_18_2, gr_18_3, gr_18_4, pi_18_0, pi_18_1, pi_18_2, io_18, ld_19, ld_20, st_19, st_20, gr_45_0, gi_45_1, gi_45_2, pi_45_1, pi_45_2, io_45, gr_240_0, gr_240_1, gr_240_2, gr_240_3, gi_240_4, pi_240_4, io_240, ld_241, st_241, ld_242, st_242, ld_243, st_243, ld_244, st_244, ld_246, st_246, ld_247, st_247, gr_245_0, gr_245_1, gi_245_2, pi_245_2, io_245, f45, h2, h]
    · have e1 : jz_up f1 45 2 (nI k') 45 1 = nI (st_ps σ).length := by
        simp only [jz_up, if_true, upd, f45]
        exact h1
      rw [← en]
      simp only [ev_seq, ev_if, ev_ret, ev_retv, ev_skip, ev_pop, ev_puti, ev_putz, ev_updf, ev_st, ev_stz, ev_upda, ev_scall, ev_int, ev_lng, ev_bin, ev_un, ev_div, ev_ldiv, ev_fi, ev_fr, ev_ld, ev_lr, ev_and, ev_or, ev_not, ev_of, ev_ite, ev_gnil, ev_gcons, ev_call, Option.bind_some, ev_loc0, ev_seti0, ev_setr0, ev_inc0, ev_loc1, ev_seti1, ev_setr1, ev_inc1, ev_loc2, ev_seti2, ev_setr2, ev_inc2, ev_loc3, ev_seti3, ev_setr3, ev_inc3, ev_loc4, ev_seti4, ev_setr4, ev_inc4, ev_loc5, ev_seti5, ev_setr5, ev_inc5, ev_loc6, ev_seti6, ev_setr6, ev_inc6, ev_loc7, ev_seti7, ev_setr7, ev_inc7, ev_loc8, ev_seti8, ev_setr8, ev_inc8, ev_lor0, ev_lor1, ev_lor2, ev_lor3, ev_isS, ok_same, List.length_cons, List.length_nil, Nat.zero_add, Nat.reduceAdd, BEq.rfl, if_true, io_274, jo_lt, jo_le, jo_gt, jo_ge, jo_eq, jo_ne, ent_1_1, ent_2_1, ent_2_2, ent_3_1, ent_3_2, ent_3_3, ent_4_1, ent_4_2, ent_4_3, ent_4_4, ent_5_1, ent_5_2, ent_5_3, ent_5_4, ent_5_5, ent_6_1, ent_6_2, ent_6_3, ent_6_4, ent_6_5, ent_6_6, ent_7_1, ent_7_2, ent_7_3, ent_7_4, ent_7_5, ent_7_6, ent_8_1, ent_8_2, ent_8_3, ent_8_4, ent_8_5, ent_8_6, ent_9_1, ent_9_2, ent_9_3, ent_9_4, ent_9_5, ent_9_6, if_false, decide_true, decide_false, Bool.false_eq_true, and_self, and_true, true_and, and_false, false_and, or_true, true_or, or_false, false_or, decide_eq_true_eq, not_true_eq_false, not_false_eq_true, jo_b_dec, Bool.not_true, Bool.not_false, gr_0_0, gr_0_1, gr_0_2, gr_0_3, gr_0_4, gr_0_5, gr_0_6, gr_0_7, gi_0_8, gi_0_9, pi_0_8, pi_0_9, io_0, gr_1_0, gi_1_1, gi_1_2, gi_1_3, gi_1_4, pi_1_1, pi_1_2, pi_1_3, pi_1_4, gr_1_5, gr_1_6, io_1, ld_2, st_2, gi_18_0, gi_18_1, gi_18_2, gr_18_3, gr_18_4, pi_18_0, pi_18_1, pi_18_2, io_18, ld_19, ld_20, st_19, st_20, gr_45_0, gi_45_1, gi_45_2, pi_45_1, pi_45_2, io_45, gr_240_0, gr_240_1, gr_240_2, gr_240_3, gi_240_4, pi_240_4, io_240, ld_241, st_241, ld_242, st_242, ld_243, st_243, ld_244, st_244, ld_246, st_246, ld_247, st_247, gr_245_0, gr_245_1, gi_245_2, pi_245_2, io_245, e1]
  · refine RX.setPast hf (fun x hx => ?_) ?_
    · simp only [jz_up]
      rw [if_neg (by omega), if_neg (by omega)]
      exact c2 x (by omega)
    · have hk' : k' < 16 := by simp only [k']; split <;> omega
      refine ⟨k', hk', ?_, ?_, fun j s hs => ?_⟩
      · rw [psh_len hl]; simp only [jz_up, if_true, upd]; first | rfl | skip
      · simp only [jz_up, if_true, upd]; first | rfl | skip
      · have hlen := psh_len (s := st_now σ) hl
        have ek' : k' % 16 = (k + 1) % 16 := by simp only [k']; split <;> omega
        have keep : ∀ m, 47 ≤ m → jz_up (jz_up f1 45 2 (nI k')) 45 1 (nI n') m = f1 m := fun m hm => by
          simp only [jz_up]
          rw [if_neg (by omega), if_neg (by omega)]
        rcases psh_get hl hs with ⟨hj, rfl⟩ | ⟨hj, hg⟩
        · have es : (k' + 16 - (sp_psh (st_ps σ) (st_now σ)).length + j) % 16 = k := by rw [hlen]; omega
          rw [es]
          exact XS.keep (fun i hi => keep _ (by omega)) (c3 _ _ _ hnc hnp hf.2.1)
        · have h0 := h3 _ _ hg
          by_cases h16 : (st_ps σ).length < 16
          · rw [if_pos h16] at h0
            have es : (k' + 16 - (sp_psh (st_ps σ) (st_now σ)).length + j) % 16 = (k + 16 - (st_ps σ).length + j) % 16 := by rw [hlen]; omega
            have ne : (k + 16 - (st_ps σ).length + j) % 16 ≠ k := by omega
            rw [es]
            exact XS.keep (fun i hi => by rw [keep _ (by omega)]; exact c2 _ (by omega)) h0
          · rw [if_neg h16] at h0
            have es : (k' + 16 - (sp_psh (st_ps σ) (st_now σ)).length + j) % 16 = (k + 16 - (st_ps σ).length + (j + 1)) % 16 := by rw [hlen]; omega
            have ne : (k + 16 - (st_ps σ).length + (j + 1)) % 16 ≠ k := by omega
            rw [es]
            exact XS.keep (fun i hi => by rw [keep _ (by omega)]; exact c2 _ (by omega)) h0
  · intro x hx
    simp only [jz_up]
    rw [if_neg (by omega), if_neg (by omega)]
    exact c2 x (by omega)
theorem x_pop {f : Nat → Nat → Int32} {σ : sp_st} (hf : RX f σ) (ho : StOK σ) {ps : List sp_S} {s : sp_S} (hp : st_ps σ = ps ++ [s]) : ∃ f', MX4_pop [.ref 45, .ref 21] (SG, f) = some ((), (SG, f')) ∧ RX f' (st_withNow (st_withPast σ ps) s) ∧ ∀ x, 274 ≤ x → f' x = f x := by
  have hnc := ho.1.2.1
  have hnp := ho.1.2.2.1
  obtain ⟨k, hk, h1, h2, h3⟩ := hf.2.2.2.2.2.2.2.1
  have hl := ho.2.2.2.2.2.2.1.1
  have hlen : (st_ps σ).length = ps.length + 1 := by rw [hp, List.length_append]; rfl
  rw [hlen] at h1 h3 hl
  let k' := if 0 < k then k - 1 else 15
  have hk' : k' < 16 := by simp only [k']; split <;> omega
  have ek : (if 0 < nI k then nI k - 1 else (15 : Int32)) = nI k' := by
    have this : (0 : Int32) < nI k ↔ 0 < k := nn_lt (m := 0) (n := k) (by decide) (by omega)
    by_cases h : 0 < k
    · rw [if_pos (this.mpr h)]; simp only [k', if_pos h]; exact nn_sub (b := 1) (by omega)
    · rw [if_neg (fun h' => h (this.mp h'))]; simp only [k', if_neg h]; rfl
  let f1 := jz_up (jz_up f 45 2 (nI k')) 45 1 (nI ps.length)
  have e1 : jz_up f 45 2 (nI k') 45 1 = nI (ps.length + 1) := by
    simp only [jz_up, if_true, upd]; exact h1
  have e2 : f1 45 2 = nI k' := by
    simp only [f1, jz_up, if_true, upd]; first | rfl | skip
  have e3 : f1 45 1 = nI ps.length := by
    simp only [f1, jz_up, if_true, upd]
  have e4 : ∀ x, x ≠ 45 → f1 x = f x := fun x hx => by
    simp only [f1, jz_up]
    rw [if_neg hx, if_neg hx]
  have r1 : RX f1 (st_withPast σ ps) := by
    refine RX.setPast hf (fun x hx => e4 x (by omega)) ⟨k', hk', e3, e2, fun j t ht => ?_⟩
    have hj := (List.getElem?_eq_some_iff.mp ht).1
    have h0 := h3 j t (by rw [hp, List.getElem?_append_left hj]; exact ht)
    have es : (k' + 16 - ps.length + j) % 16 = (k + 16 - (ps.length + 1) + j) % 16 := by simp only [k']; split <;> omega
    rw [es]
    exact XS.keep (fun i hi => e4 _ (by omega)) h0
  have hs : XS f1 (47 + 12 * k') (st_nc σ) (st_np σ) s := by
    have h0 := h3 ps.length s (by rw [hp, List.getElem?_append_right (Nat.le_refl _), Nat.sub_self]; rfl)
    have es : (k + 16 - (ps.length + 1) + ps.length) % 16 = k' := by simp only [k']; split <;> omega
    rw [es] at h0
    exact XS.keep (fun i hi => e4 _ (by omega)) h0
  obtain ⟨f2, c1, c2, c3⟩ := x_copyFrom day_now (day_past k' hk') (by omega) f1
  refine ⟨f2, ?_, RX.setNow r1 (fun x hx => c2 x (by omega)) (c3 _ _ _ hnc hnp hs), fun x hx => by rw [c2 x (by omega), e4 x (by omega)]⟩
  refine run_V rfl ⟨rfl, Nat.le_of_ble_eq_true rfl⟩ ?_
  unfold BX4_pop
  have hpos : (0 : Int32) < nI (ps.length + 1) := (nn_lt (m := 0) (by decide) (by omega)).mpr (by omega)
  have hsub : nI (ps.length + 1) - 1 = nI ps.length := nn_sub (b := 1) (by omega)
  refine seq_some [some (.ref 45), some (.ref 21)] (SG, f2) ?_ rfl
  rw [ev_if]
  simp only [ev_seq, ev_if, ev_ret, ev_retv, ev_skip, ev_pop, ev_puti, ev_putz, ev_updf, ev_st, ev_stz, ev_upda, ev_scall, ev_int, ev_lng, ev_bin, ev_un, ev_div, ev_ldiv, ev_fi, ev_fr, ev_ld, ev_lr, ev_and, ev_or, ev_not, ev_of, ev_ite, ev_gnil, ev_gcons, ev_call, Option.bind_some, ev_loc0, ev_seti0, ev_setr0, ev_inc0, ev_loc1, ev_seti1, ev_setr1, ev_inc1, ev_loc2, ev_seti2, ev_setr2, ev_inc2, ev_loc3, ev_seti3, ev_setr3, ev_inc3, ev_loc4, ev_seti4, ev_setr4, ev_inc4, ev_loc5, ev_seti5, ev_setr5, ev_inc5, ev_loc6, ev_seti6, ev_setr6, ev_inc6, ev_loc7, ev_seti7, ev_setr7, ev_inc7, ev_loc8, ev_seti8, ev_setr8, ev_inc8, ev_lor0, ev_lor1, ev_lor2, ev_lor3, ev_isS, ok_same, List.length_cons, List.length_nil, Nat.zero_add, Nat.reduceAdd, BEq.rfl, if_true, io_274, jo_lt, jo_le, jo_gt, jo_ge, jo_eq, jo_ne, ent_1_1, ent_2_1, ent_2_2, ent_3_1, ent_3_2, ent_3_3, ent_4_1, ent_4_2, ent_4_3, ent_4_4, ent_5_1, ent_5_2, ent_5_3, ent_5_4, ent_5_5, ent_6_1, ent_6_2, ent_6_3, ent_6_4, ent_6_5, ent_6_6, ent_7_1, ent_7_2, ent_7_3, ent_7_4, ent_7_5, ent_7_6, ent_8_1, ent_8_2, ent_8_3, ent_8_4, ent_8_5, ent_8_6, ent_9_1, ent_9_2, ent_9_3, ent_9_4, ent_9_5, ent_9_6, if_false, decide_true, decide_false, Bool.false_eq_true, and_self, and_true, true_and, and_false, false_and, or_true, true_or, or_false, false_or, decide_eq_true_eq, not_true_eq_false, not_false_eq_true, jo_b_dec, Bool.not_true, Bool.not_false, gr_0_0, gr_0_1, gr_0_2, gr_0_3, gr_0_4, gr_0_5, gr_0_6, gr_0_7, gi_0_8, gi_0_9, pi_0_8, pi_0_9, io_0, gr_1_0, gi_1_1, gi_1_2, gi_1_3, gi_1_4, pi_1_1, pi_1_2, pi_1_3, pi_1_4, gr_1_5, gr_1_6, io_1, ld_2, st_2, gi_18_0, gi_18_1, gi_18_2, gr_18_3, gr_18_4, pi_18_0, pi_18_1, pi_18_2, io_18, ld_19, ld_20, st_19, st_20, gr_45_0, gi_45_1, gi_45_2, pi_45_1, pi_45_2, io_45, gr_240_0, gr_240_1, gr_240_2, gr_240_3, gi_240_4, pi_240_4, io_240, ld_241, st_241, ld_242, st_242, ld_243, st_243, ld_244, st_244, ld_246, st_246, ld_247, st_247, gr_245_0, gr_245_1, gi_245_2, pi_245_2, io_245, h1, hpos]
  have s1 : (if 0 < nI k then nI k - 1 else (15 : Int32)) = nI k' := ek
  by_cases h : 0 < nI k
  · rw [if_pos h] at s1
    simp only [ev_seq, ev_if, ev_ret, ev_retv, ev_skip, ev_pop, ev_puti, ev_putz, ev_updf, ev_st, ev_stz, ev_upda, ev_scall, ev_int, ev_lng, ev_bin, ev_un, ev_div, ev_ldiv, ev_fi, ev_fr, ev_ld, ev_lr, ev_and, ev_or, ev_not, ev_of, ev_ite, ev_gnil, ev_gcons, ev_call, Option.bind_some, ev_loc0, ev_seti0, ev_setr0, ev_inc0, ev_loc1, ev_seti1, ev_setr1, ev_inc1, ev_loc2, ev_seti2, ev_setr2, ev_inc2, ev_loc3, ev_seti3, ev_setr3, ev_inc3, ev_loc4, ev_seti4, ev_setr4, ev_inc4, ev_loc5, ev_seti5, ev_setr5, ev_inc5, ev_loc6, ev_seti6, ev_setr6, ev_inc6, ev_loc7, ev_seti7, ev_setr7, ev_inc7, ev_loc8, ev_seti8, ev_setr8, ev_inc8, ev_lor0, ev_lor1, ev_lor2, ev_lor3, ev_isS, ok_same, List.length_cons, List.length_nil, Nat.zero_add, Nat.reduceAdd, BEq.rfl, if_true, io_274, jo_lt, jo_le, jo_gt, jo_ge, jo_eq, jo_ne, ent_1_1, ent_2_1, ent_2_2, ent_3_1, ent_3_2, ent_3_3, ent_4_1, ent_4_2, ent_4_3, ent_4_4, ent_5_1, ent_5_2, ent_5_3, ent_5_4, ent_5_5, ent_6_1, ent_6_2, ent_6_3, ent_6_4, ent_6_5, ent_6_6, ent_7_1, ent_7_2, ent_7_3, ent_7_4, ent_7_5, ent_7_6, ent_8_1, ent_8_2, ent_8_3, ent_8_4, ent_8_5, ent_8_6, ent_9_1, ent_9_2, ent_9_3, ent_9_4, ent_9_5, ent_9_6, if_false, decide_true, decide_false, Bool.false_eq_true, and_self, and_true, true_and, and_false, false_and, or_true, true_or, or_false, false_or, decide_eq_true_eq, not_true_eq_false, not_false_eq_true, jo_b_dec, Bool.not_true, Bool.not_false, gr_0_0, gr_0_1, gr_0_2, gr_0_3, gr_0_4, gr_0_5, gr_0_6, gr_0_7, gi_0_8, gi_0_9, pi_0_8, pi_0_9, io_0, gr_1_0, gi_1_1, gi_1_2, gi_1_3, gi_1_4, pi_1_1, pi_1_2, pi_1_3, pi_1_4, gr_1_5, gr_1_6, io_1, ld_2, st_2, gi_18_0, gi_18_1, gi_18_2, gr_18_3, gr_18_4, pi_18_0, pi_18_1, pi_18_2, io_18, ld_19, ld_20, st_19, st_20, gr_45_0, gi_45_1, gi_45_2, pi_45_1, pi_45_2, io_45, gr_240_0, gr_240_1, gr_240_2, gr_240_3, gi_240_4, pi_240_4, io_240, ld_241, st_241, ld_242, st_242, ld_243, st_243, ld_244, st_244, ld_246, st_246, ld_247, st_247, gr_245_0, gr_245_1, gi_245_2, pi_245_2, io_245, gr_21_0, gi_21_1, pi_21_1, gi_21_2, pi_21_2, gr_21_3, gr_21_4, gr_21_5, gr_21_6, gr_21_7, gr_21_8, gr_21_9, gr_21_10, gr_21_11, gr_21_12, io_21, ld_22, st_22, ld_23, st_23, ld_24, st_24, ld_25, st_25, ld_26, st_26, ld_27, st_27, ld_28, st_28, ld_29, st_29, ld_30, st_30, gr_31_0, gi_31_1, pi_31_1, gi_31_2, pi_31_2, io_31, ld_32, st_32, gr_33_0, gi_33_1, pi_33_1, gi_33_2, pi_33_2, gr_33_3, gr_33_4, gr_33_5, gr_33_6, gr_33_7, gr_33_8, gr_33_9, gr_33_10, gr_33_11, gr_33_12, io_33, ld_34, st_34, ld_35, st_35, ld_36, st_36, ld_37, st_37, ld_38, st_38, ld_39, st_39, ld_40, st_40, ld_41, st_41, ld_42, st_42, gr_43_0, gi_43_1, pi_43_1, gi_43_2, pi_43_2, io_43, ld_44, st_44, h1, h2, h, s1, e1, hsub, e2, lr_46 _ hk', c1, f1]
  · rw [if_neg h] at s1
    simp only [ev_seq, ev_if, ev_ret, ev_retv, ev_skip, ev_pop, ev_puti, ev_putz, ev_updf, ev_st, ev_stz, ev_upda, ev_scall, ev_int, ev_lng, ev_bin, ev_un, ev_div, ev_ldiv, ev_fi, ev_fr, ev_ld, ev_lr, ev_and, ev_or, ev_not, ev_of, ev_ite, ev_gnil, ev_gcons, ev_call, Option.bind_some, ev_loc0, ev_seti0, ev_setr0, ev_inc0, ev_loc1, ev_seti1, ev_setr1, ev_inc1, ev_loc2, ev_seti2, ev_setr2, ev_inc2, ev_loc3, ev_seti3, ev_setr3, ev_inc3, ev_loc4, ev_seti4, ev_setr4, ev_inc4, ev_loc5, ev_seti5, ev_setr5, ev_inc5, ev_loc6, ev_seti6, ev_setr6, ev_inc6, ev_loc7, ev_seti7, ev_setr7, ev_inc7, ev_loc8, ev_seti8, ev_setr8, ev_inc8, ev_lor0, ev_lor1, ev_lor2, ev_lor3, ev_isS, ok_same, List.length_cons, List.length_nil, Nat.zero_add, Nat.reduceAdd, BEq.rfl, if_true, io_274, jo_lt, jo_le, jo_gt, jo_ge, jo_eq, jo_ne, ent_1_1, ent_2_1, ent_2_2, ent_3_1, ent_3_2, ent_3_3, ent_4_1, ent_4_2, ent_4_3, ent_4_4, ent_5_1, ent_5_2, ent_5_3, ent_5_4, ent_5_5, ent_6_1, ent_6_2, ent_6_3, ent_6_4, ent_6_5, ent_6_6, ent_7_1, ent_7_2, ent_7_3, ent_7_4, ent_7_5, ent_7_6, ent_8_1, ent_8_2, ent_8_3, ent_8_4, ent_8_5, ent_8_6, ent_9_1, ent_9_2, ent_9_3, ent_9_4, ent_9_5, ent_9_6, if_false, decide_true, decide_false, Bool.false_eq_true, and_self, and_true, true_and, and_false, false_and, or_true, true_or, or_false, false_or, decide_eq_true_eq, not_true_eq_false, not_false_eq_true, jo_b_dec, Bool.not_true, Bool.not_false, gr_0_0, gr_0_1, gr_0_2, gr_0_3, gr_0_4, gr_0_5, gr_0_6, gr_0_7, gi_0_8, gi_0_9, pi_0_8, pi_0_9, io_0, gr_1_0, gi_1_1, gi_1_2, gi_1_3, gi_1_4, pi_1_1, pi_1_2, pi_1_3, pi_1_4, gr_1_5, gr_1_6, io_1, ld_2, st_2, gi_18_0, gi_18_1, gi_18_2, gr_18_3, gr_18_4, pi_18_0, pi_18_1, pi_18_2, io_18, ld_19, ld_20, st_19, st_20, gr_45_0, gi_45_1, gi_45_2, pi_45_1, pi_45_2, io_45, gr_240_0, gr_240_1, gr_240_2, gr_240_3, gi_240_4, pi_240_4, io_240, ld_241, st_241, ld_242, st_242, ld_243, st_243, ld_244, st_244, ld_246, st_246, ld_247, st_247, gr_245_0, gr_245_1, gi_245_2, pi_245_2, io_245, gr_21_0, gi_21_1, pi_21_1, gi_21_2, pi_21_2, gr_21_3, gr_21_4, gr_21_5, gr_21_6, gr_21_7, gr_21_8, gr_21_9, gr_21_10, gr_21_11, gr_21_12, io_21, ld_22, st_22, ld_23, st_23, ld_24, st_24, ld_25, st_25, ld_26, st_26, ld_27, st_27, ld_28, st_28, ld_29, st_29, ld_30, st_30, gr_31_0, gi_31_1, pi_31_1, gi_31_2, pi_31_2, io_31, ld_32, st_32, gr_33_0, gi_33_1, pi_33_1, gi_33_2, pi_33_2, gr_33_3, gr_33_4, gr_33_5, gr_33_6, gr_33_7, gr_33_8, gr_33_9, gr_33_10, gr_33_11, gr_33_12, io_33, ld_34, st_34, ld_35, st_35, ld_36, st_36, ld_37, st_37, ld_38, st_38, ld_39, st_39, ld_40, st_40, ld_41, st_41, ld_42, st_42, gr_43_0, gi_43_1, pi_43_1, gi_43_2, pi_43_2, io_43, ld_44, st_44, h1, h2, h, s1, e1, hsub, e2, lr_46 _ hk', c1, f1]
