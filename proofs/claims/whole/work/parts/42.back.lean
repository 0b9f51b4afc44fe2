/-! trials: the class's day of trial, the model's row of before -/
theorem RX.trial {f f' : Nat → Nat → Int32} {σ : sp_st} (h : RX f σ) (hk : ∀ x, ¬ (33 ≤ x ∧ x < 45) → f' x = f x) (hb : ∃ n k, BookOK f' 33 n k) : RX f' σ := by
  obtain ⟨h1, h2, h3, h4, h5, h6, h7, h8, h9, h10, h11⟩ := h
  refine ⟨h1.keep (hk 18 (by omega)) (hk 19 (by omega)) (hk 20 (by omega)), XS.keep (fun j hj => hk _ (by omega)) h2, ?_, ?_, ?_, ?_, ?_, XPast.keep h8 (fun x _ _ => hk x (by omega)), XImg.keep h9 (fun x _ _ => hk x (by omega)), hb, ?_⟩
  · rw [hk 1 (by omega), hk 2 (by omega)]; exact h3
  · rw [hk 0 (by omega)]; exact h4
  · rw [hk 0 (by omega)]; exact h5
  · rw [hk 240 (by omega), hk 241 (by omega), hk 242 (by omega), hk 243 (by omega), hk 244 (by omega)]; exact h6
  · rw [hk 245 (by omega), hk 246 (by omega), hk 247 (by omega)]; exact h7
  · unfold XRdr
    rw [hk 6 (by omega), hk 15 (by omega), hk 16 (by omega)]; exact h11
/-- the day of trial laid out as now: no book -/
theorem x_trial {f : Nat → Nat → Int32} {σ : sp_st} (hf : RX f σ) (ho : StOK σ) : ∃ f1, MX0_copyPlacesFrom [.ref 33, .ref 21] (SG, f) = some ((), (SG, f1)) ∧ XS f1 33 (st_nc σ) (st_np σ) ((st_now σ).1, none) ∧ RX f1 σ ∧ ∀ x, ¬ (33 ≤ x ∧ x < 45) → f1 x = f x := by
  obtain ⟨f1, a1, a2⟩ := x_copyPlaces day_trial day_now (by omega) f
  obtain ⟨n, k, hb⟩ := hf.2.2.2.2.2.2.2.2.2.1
  have hb1 : BookOK f1 33 n k := ⟨hb.1, hb.2.1, by rw [a2.1 _ (by omega)]; exact hb.2.2.1, by rw [a2.1 _ (by omega)]; exact hb.2.2.2⟩
  have fr : ∀ x, ¬ (33 ≤ x ∧ x < 45) → f1 x = f x := fun x hx => a2.1 x (by omega)
  exact ⟨f1, a1, ⟨a2.day ho.1.2.1 ho.1.2.2.1 hf.day, n, k, hb1⟩, hf.trial fr ⟨n, k, hb1⟩, fr⟩
theorem RM.back {f f' : Nat → Nat → Int32} {σ : sp_st} (ho : StOK σ) (h : RM f σ) (hk : ∀ x, x ≠ 283 → x ≠ 294 → f' x = f x) (h283 : ∀ i, i < 74 → f' 283 i = f 283 i) : RM f' σ := by
  obtain ⟨h1, h2, h3, h4, h5, h6, h7, h8, h9⟩ := h
  refine ⟨?_, MS.congr ho.1.2.1 ho.1.2.2.1 h283 h2, ?_, ?_, ?_, ?_, ?_, ?_, ?_⟩
  · unfold MRoad
    rw [hk 274 (by decide) (by decide), hk 278 (by decide) (by decide), hk 281 (by decide) (by decide)]; exact h1
  · rw [hk 274 (by decide) (by decide), hk 284 (by decide) (by decide)]; exact h3
  · rw [hk 274 (by decide) (by decide)]; exact h4
  · rw [hk 274 (by decide) (by decide)]; exact h5
  · rw [hk 274 (by decide) (by decide), hk 295 (by decide) (by decide), hk 296 (by decide) (by decide), hk 297 (by decide) (by decide), hk 298 (by decide) (by decide)]; exact h6
  · rw [hk 274 (by decide) (by decide), hk 299 (by decide) (by decide), hk 300 (by decide) (by decide)]; exact h7
  · unfold MPast
    rw [hk 274 (by decide) (by decide), hk 293 (by decide) (by decide)]; exact h8
  · unfold MImg
    rw [hk 301 (by decide) (by decide), hk 302 (by decide) (by decide)]; exact h9
theorem m_copyRow {a b na nb n : Nat} {la lb : List (Option (Option Nat))} (ha : SG[a]? = some (1, na, la)) (hb : SG[b]? = some (1, nb, lb)) (hab : a ≠ b) (h1 : n ≤ na) (h2 : n ≤ nb) (hn : n < 2000) (hna : na < 100000) (hnb : nb < 100000) (f : Nat → Nat → Int32) : MX9_copyRow [.ref a, .ref b, .int (nI n)] (SG, f) = some ((), (SG, wA b f (sp_put 0 (f b) (f a) n))) := by
  refine run_V rfl ⟨rfl, Nat.le_of_ble_eq_true rfl⟩ ?_
  unfold BX9_copyRow
  refine seq_some [some (.ref a), some (.ref b), some (.int (nI n)), some (.int (nI n))] (SG, wA b f (sp_put 0 (f b) (f a) n)) ?_ rfl
  refine seq_some [some (.ref a), some (.ref b), some (.int (nI n)), some (.int 0)] (SG, f) rfl ?_
  refine for_some (fun i => ([some (.ref a), some (.ref b), some (.int (nI n)), some (.int (nI i))], (SG, wA b f (sp_put 0 (f b) (f a) i)))) n ?_ hn ?_ ?_ ?_
  · show (_, (SG, f)) = (_, (SG, wA b f (sp_put 0 (f b) (f a) 0)))
    rw [put_zero, wA_id b f rfl]; rfl
  · intro i hi
    simp only [ev_seq, ev_if, ev_ret, ev_retv, ev_skip, ev_pop, ev_puti, ev_putz, ev_updf, ev_st, ev_stz, ev_upda, ev_scall, ev_int, ev_lng, ev_bin, ev_un, ev_div, ev_ldiv, ev_fi, ev_fr, ev_ld, ev_lr, ev_and, ev_or, ev_not, ev_of, ev_ite, ev_gnil, ev_gcons, ev_call, Option.bind_some, ev_loc0, ev_seti0, ev_setr0, ev_inc0, ev_loc1, ev_seti1, ev_setr1, ev_inc1, ev_loc2, ev_seti2, ev_setr2, ev_inc2, ev_loc3, ev_seti3, ev_setr3, ev_inc3, ev_loc4, ev_seti4, ev_setr4, ev_inc4, ev_loc5, ev_seti5, ev_setr5, ev_inc5, ev_loc6, ev_seti6, ev_setr6, ev_inc6, ev_loc7, ev_seti7, ev_setr7, ev_inc7, ev_loc8, ev_seti8, ev_setr8, ev_inc8, ev_lor0, ev_lor1, ev_lor2, ev_lor3, ev_isS, ok_same, List.length_cons, List.length_nil, Nat.zero_add, Nat.reduceAdd, BEq.rfl, if_true, io_274, jo_lt, jo_le, jo_gt, jo_ge, jo_eq, jo_ne, ent_1_1, ent_2_1, ent_2_2, ent_3_1, ent_3_2, ent_3_3, ent_4_1, ent_4_2, ent_4_3, ent_4_4, ent_5_1, ent_5_2, ent_5_3, ent_5_4, ent_5_5, ent_6_1, ent_6_2, ent_6_3, ent_6_4, ent_6_5, ent_6_6, ent_7_1, ent_7_2, ent_7_3, ent_7_4, ent_7_5, ent_7_6, ent_8_1, ent_8_2, ent_8_3, ent_8_4, ent_8_5, ent_8_6, ent_9_1, ent_9_2, ent_9_3, ent_9_4, ent_9_5, ent_9_6, if_false, decide_true, decide_false, Bool.false_eq_true, and_self, and_true, true_and, and_false, false_and, or_true, true_or, or_false, false_or, decide_eq_true_eq, not_true_eq_false, not_false_eq_true, jo_b_dec, Bool.not_true, Bool.not_false, nn_lt (show i < 2147483648 by omega) (show n < 2147483648 by omega), hi]
  · intro i hi
    have l1 : ∀ f, jz_ld 1 a (nI i) (SG, f) = some (f a i) := fun f => by
      rw [ld_of f (nI i) ha, nn_in (show i < na by omega) (by omega), if_pos rfl, nn_clamp (by omega)]
    have s1 : ∀ f v, jz_st 1 b (nI i) v (SG, f) = some (SG, jz_up f b i v) := fun f v => by
      rw [st_of f (nI i) v hb, nn_in (show i < nb by omega) (by omega), if_pos rfl, nn_clamp (by omega)]
    have p0 := put_step 0 (f b) (f a) i
    rw [Nat.zero_add] at p0
    simp only [ev_seq, ev_if, ev_ret, ev_retv, ev_skip, ev_pop, ev_puti, ev_putz, ev_updf, ev_st, ev_stz, ev_upda, ev_scall, ev_int, ev_lng, ev_bin, ev_un, ev_div, ev_ldiv, ev_fi, ev_fr, ev_ld, ev_lr, ev_and, ev_or, ev_not, ev_of, ev_ite, ev_gnil, ev_gcons, ev_call, Option.bind_some, ev_loc0, ev_seti0, ev_setr0, ev_inc0, ev_loc1, ev_seti1, ev_setr1, ev_inc1, ev_loc2, ev_seti2, ev_setr2, ev_inc2, ev_loc3, ev_seti3, ev_setr3, ev_inc3, ev_loc4, ev_seti4, ev_setr4, ev_inc4, ev_loc5, ev_seti5, ev_setr5, ev_inc5, ev_loc6, ev_seti6, ev_setr6, ev_inc6, ev_loc7, ev_seti7, ev_setr7, ev_inc7, ev_loc8, ev_seti8, ev_setr8, ev_inc8, ev_lor0, ev_lor1, ev_lor2, ev_lor3, ev_isS, ok_same, List.length_cons, List.length_nil, Nat.zero_add, Nat.reduceAdd, BEq.rfl, if_true, io_274, jo_lt, jo_le, jo_gt, jo_ge, jo_eq, jo_ne, ent_1_1, ent_2_1, ent_2_2, ent_3_1, ent_3_2, ent_3_3, ent_4_1, ent_4_2, ent_4_3, ent_4_4, ent_5_1, ent_5_2, ent_5_3, ent_5_4, ent_5_5, ent_6_1, ent_6_2, ent_6_3, ent_6_4, ent_6_5, ent_6_6, ent_7_1, ent_7_2, ent_7_3, ent_7_4, ent_7_5, ent_7_6, ent_8_1, ent_8_2, ent_8_3, ent_8_4, ent_8_5, ent_8_6, ent_9_1, ent_9_2, ent_9_3, ent_9_4, ent_9_5, ent_9_6, if_false, decide_true, decide_false, Bool.false_eq_true, and_self, and_true, true_and, and_false, false_and, or_true, true_or, or_false, false_or, decide_eq_true_eq, not_true_eq_false, not_false_eq_true, jo_b_dec, Bool.not_true, Bool.not_false, l1, s1, wA_ne hab, wA_up, p0, nn_succ]
  · simp only [ev_seq, ev_if, ev_ret, ev_retv, ev_skip, ev_pop, ev_puti, ev_putz, ev_updf, ev_st, ev_stz, ev_upda, ev_scall, ev_int, ev_lng, ev_bin, ev_un, ev_div, ev_ldiv, ev_fi, ev_fr, ev_ld, ev_lr, ev_and, ev_or, ev_not, ev_of, ev_ite, ev_gnil, ev_gcons, ev_call, Option.bind_some, ev_loc0, ev_seti0, ev_setr0, ev_inc0, ev_loc1, ev_seti1, ev_setr1, ev_inc1, ev_loc2, ev_seti2, ev_setr2, ev_inc2, ev_loc3, ev_seti3, ev_setr3, ev_inc3, ev_loc4, ev_seti4, ev_setr4, ev_inc4, ev_loc5, ev_seti5, ev_setr5, ev_inc5, ev_loc6, ev_seti6, ev_setr6, ev_inc6, ev_loc7, ev_seti7, ev_setr7, ev_inc7, ev_loc8, ev_seti8, ev_setr8, ev_inc8, ev_lor0, ev_lor1, ev_lor2, ev_lor3, ev_isS, ok_same, List.length_cons, List.length_nil, Nat.zero_add, Nat.reduceAdd, BEq.rfl, if_true, io_274, jo_lt, jo_le, jo_gt, jo_ge, jo_eq, jo_ne, ent_1_1, ent_2_1, ent_2_2, ent_3_1, ent_3_2, ent_3_3, ent_4_1, ent_4_2, ent_4_3, ent_4_4, ent_5_1, ent_5_2, ent_5_3, ent_5_4, ent_5_5, ent_6_1, ent_6_2, ent_6_3, ent_6_4, ent_6_5, ent_6_6, ent_7_1, ent_7_2, ent_7_3, ent_7_4, ent_7_5, ent_7_6, ent_8_1, ent_8_2, ent_8_3, ent_8_4, ent_8_5, ent_8_6, ent_9_1, ent_9_2, ent_9_3, ent_9_4, ent_9_5, ent_9_6, if_false, decide_true, decide_false, Bool.false_eq_true, and_self, and_true, true_and, and_false, false_and, or_true, true_or, or_false, false_or, decide_eq_true_eq, not_true_eq_false, not_false_eq_true, jo_b_dec, Bool.not_true, Bool.not_false, Int32.lt_irrefl]
