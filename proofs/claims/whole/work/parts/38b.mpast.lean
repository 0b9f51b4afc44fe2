/-! the past of the model: remember, undo -/
def wA (a : Nat) (f : Nat → Nat → Int32) (g : Nat → Int32) : Nat → Nat → Int32 := fun x => if x = a then g else f x
theorem wA_at (a : Nat) (f : Nat → Nat → Int32) (g : Nat → Int32) : wA a f g a = g := if_pos rfl
theorem wA_up (a : Nat) (f : Nat → Nat → Int32) (g : Nat → Int32) (i : Nat) (v : Int32) : jz_up (wA a f g) a i v = wA a f (upd g i v) := by
  funext x
  simp only [jz_up, wA]
  by_cases h : x = a
  · simp only [h, if_true]
  · simp only [h, if_false]
theorem wA_ne {a x : Nat} (h : x ≠ a) (f : Nat → Nat → Int32) (g : Nat → Int32) : wA a f g x = f x := if_neg h
theorem wA_id (a : Nat) (f : Nat → Nat → Int32) {g : Nat → Int32} (h : g = f a) : wA a f g = f := by
  funext x
  simp only [wA]
  by_cases hx : x = a
  · rw [if_pos hx, h, hx]
  · rw [if_neg hx]
theorem wA_293_274 (f : Nat → Nat → Int32) (g : Nat → Int32) : wA 293 f g 274 = f 274 := rfl
theorem wA_293_283 (f : Nat → Nat → Int32) (g : Nat → Int32) : wA 293 f g 283 = f 283 := rfl
theorem wA_283_274 (f : Nat → Nat → Int32) (g : Nat → Int32) : wA 283 f g 274 = f 274 := rfl
theorem wA_283_293 (f : Nat → Nat → Int32) (g : Nat → Int32) : wA 283 f g 293 = f 293 := rfl
theorem wA_283_301 (f : Nat → Nat → Int32) (g : Nat → Int32) : wA 283 f g 301 = f 301 := rfl
theorem wA_301_274 (f : Nat → Nat → Int32) (g : Nat → Int32) : wA 301 f g 274 = f 274 := rfl
theorem wA_301_283 (f : Nat → Nat → Int32) (g : Nat → Int32) : wA 301 f g 283 = f 283 := rfl
theorem MS.congr {g g' : Nat → Int32} {nc np : Nat} {s : sp_S} (hnc : nc ≤ 4) (hnp : np ≤ 7) (h : ∀ i, i < 74 → g' i = g i) (hs : MS g nc np s) : MS g' nc np s := by
  obtain ⟨hd, B, hB, hm⟩ := hs
  refine ⟨⟨fun c hc => ?_, fun p hp => ?_, ?_, ?_⟩, B, hB, hm.1, ?_, fun j e he => ?_, hm.2.2.2⟩
  · rw [h c (by omega), h (4 + c) (by omega), h (8 + c) (by omega), h (12 + c) (by omega)]; exact hd.1 c hc
  · rw [h (16 + p) (by omega), h (23 + p) (by omega), h (30 + p) (by omega), h (37 + p) (by omega), h (44 + p) (by omega)]; exact hd.2.1 p hp
  · rw [h 51 (by decide)]; exact hd.2.2.1
  · rw [h 52 (by decide)]; exact hd.2.2.2
  · rw [h 53 (by decide)]; exact hm.2.1
  · have hj := (List.getElem?_eq_some_iff.mp he).1
    have := hm.1
    rw [h (54 + j) (by omega)]; exact hm.2.2.1 j e he
theorem RM.setPast {f f' : Nat → Nat → Int32} {σ : sp_st} {ps : List sp_S} (h : RM f σ) (hk : ∀ x, x ≠ 274 → x ≠ 293 → f' x = f x) (h274 : ∀ i, i ≠ 32 → f' 274 i = f 274 i) (hp : MPast f' (st_nc σ) (st_np σ) ps) : RM f' (st_withPast σ ps) := by
  obtain ⟨h1, h2, h3, h4, h5, h6, h7, h8, h9⟩ := h
  refine ⟨?_, ?_, ?_, ?_, ?_, ?_, ?_, hp, ?_⟩
  · unfold MRoad
    rw [h274 0 (by decide), h274 2 (by decide), h274 6 (by decide), hk 278 (by decide) (by decide), hk 281 (by decide) (by decide)]; exact h1
  · rw [hk 283 (by decide) (by decide)]; exact h2
  · rw [h274 15 (by decide), hk 284 (by decide) (by decide)]; exact h3
  · rw [h274 16 (by decide)]; exact h4
  · rw [h274 13 (by decide)]; exact h5
  · rw [h274 35 (by decide), hk 295 (by decide) (by decide), hk 296 (by decide) (by decide), hk 297 (by decide) (by decide), hk 298 (by decide) (by decide)]; exact h6
  · rw [h274 40 (by decide), hk 299 (by decide) (by decide), hk 300 (by decide) (by decide)]; exact h7
  · unfold MImg
    rw [hk 301 (by decide) (by decide), hk 302 (by decide) (by decide)]; exact h9
theorem RM.setNow {f f' : Nat → Nat → Int32} {σ : sp_st} {s : sp_S} (h : RM f σ) (hk : ∀ x, x ≠ 283 → f' x = f x) (hs : MS (f' 283) (st_nc σ) (st_np σ) s) : RM f' (st_withNow σ s) := by
  obtain ⟨h1, h2, h3, h4, h5, h6, h7, h8, h9⟩ := h
  refine ⟨?_, hs, ?_, ?_, ?_, ?_, ?_, ?_, ?_⟩
  · unfold MRoad
    rw [hk 274 (by decide), hk 278 (by decide), hk 281 (by decide)]; exact h1
  · rw [hk 274 (by decide), hk 284 (by decide)]; exact h3
  · rw [hk 274 (by decide)]; exact h4
  · rw [hk 274 (by decide)]; exact h5
  · rw [hk 274 (by decide), hk 295 (by decide), hk 296 (by decide), hk 297 (by decide), hk 298 (by decide)]; exact h6
  · rw [hk 274 (by decide), hk 299 (by decide), hk 300 (by decide)]; exact h7
  · unfold MPast
    rw [hk 274 (by decide), hk 293 (by decide)]; exact h8
  · unfold MImg
    rw [hk 301 (by decide), hk 302 (by decide)]; exact h9
theorem uq_ne {f : Nat → Nat → Int32} {a k i : Nat} {v : Int32} (h : i ≠ k) : jz_up f a k v a i = f a i := by
  simp only [jz_up, if_true, upd, h, if_false]
theorem uq_at {f : Nat → Nat → Int32} {a k : Nat} {v : Int32} : jz_up f a k v a k = v := by
  simp only [jz_up, if_true, upd]
theorem uq_far {f : Nat → Nat → Int32} {a k x : Nat} {v : Int32} (h : x ≠ a) : jz_up f a k v x = f x := by
  simp only [jz_up, h, if_false]
theorem if_T {c : jz_X Bool} {a b : jz_S} {L : jz_L} {h h1 : jz_H} {o : Option jz_O} (hc : c L h = some (true, h1)) (ha : a L h1 = o) : js_if c a b L h = o := by
  rw [ev_if, hc]; exact ha
theorem if_F {c : jz_X Bool} {a b : jz_S} {L : jz_L} {h h1 : jz_H} {o : Option jz_O} (hc : c L h = some (false, h1)) (ha : b L h1 = o) : js_if c a b L h = o := by
  rw [ev_if, hc]; exact ha
def sp_shf (g : Nat → Int32) (i : Nat) : Nat → Int32 := fun k => if k < i then g (k + 74) else g k
theorem shf_step (g : Nat → Int32) (i : Nat) : upd (sp_shf g i) i (g (74 + i)) = sp_shf g (i + 1) := by
  funext k
  simp only [upd, sp_shf]
  by_cases h : k = i
  · subst h
    rw [if_pos rfl, if_pos (by omega), Nat.add_comm]
  · rw [if_neg h]
    by_cases h2 : k < i
    · rw [if_pos h2, if_pos (by omega)]
    · rw [if_neg h2, if_neg (by omega)]
def sp_put (a : Nat) (g s : Nat → Int32) (i : Nat) : Nat → Int32 := fun k => if a ≤ k ∧ k < a + i then s (k - a) else g k
theorem put_step (a : Nat) (g s : Nat → Int32) (i : Nat) : upd (sp_put a g s i) (a + i) (s i) = sp_put a g s (i + 1) := by
  funext k
  simp only [upd, sp_put]
  by_cases h : k = a + i
  · subst h
    rw [if_pos rfl, if_pos ⟨by omega, by omega⟩]; congr 1; omega
  · rw [if_neg h]
    by_cases h2 : a ≤ k ∧ k < a + i
    · rw [if_pos h2, if_pos ⟨h2.1, by omega⟩]
    · rw [if_neg h2, if_neg (by omega)]
theorem put_zero (a : Nat) (g s : Nat → Int32) : sp_put a g s 0 = g := by
  funext k
  simp only [sp_put]
  rw [if_neg (by omega)]
/-- the second half: the day is laid down at place n of the past -/
theorem m_lay {f : Nat → Nat → Int32} {n : Nat} (hn : n < 16) (h32 : f 274 32 = nI n) (a : Option Value) : ∃ b, (js_seq (js_seq (js_seti 1 (je_int (0))) (js_while (je_bin jo_lt (je_loc 1) (je_int (74))) (js_seq (js_st (je_fr 9 33 (je_lor 0)) (je_bin (· + ·) (je_bin (· * ·) (je_int (74)) (je_fi 9 32 (je_lor 0))) (je_loc 1)) (je_ld 1 (je_fr 9 12 (je_lor 0)) (je_loc 1))) (js_inc 1 (1))) 2000)) (js_updf (· + ·) 9 32 (je_lor 0) (je_int (1)))) [some (.ref 274), a] (SG, f) = some (.inl ([some (.ref 274), b], (SG, jz_up (wA 293 f (sp_put (74 * n) (f 293) (f 283) 74)) 274 32 (nI (n + 1))))) := by
  refine ⟨some (.int (nI 74)), ?_⟩
  refine seq_some [some (.ref 274), some (.int (nI 74))] (SG, wA 293 f (sp_put (74 * n) (f 293) (f 283) 74)) ?_ ?_
  · refine seq_some [some (.ref 274), some (.int 0)] (SG, f) rfl ?_
    refine for_some (fun i => ([some (.ref 274), some (.int (nI i))], (SG, wA 293 f (sp_put (74 * n) (f 293) (f 283) i)))) 74 ?_ (by decide) ?_ ?_ ?_
    · show (_, (SG, f)) = (_, (SG, wA 293 f (sp_put (74 * n) (f 293) (f 283) 0)))
      rw [put_zero, wA_id 293 f rfl]; rfl
    · intro i hi
      have h : nI i < 74 := (nn_lt (n := 74) (by omega) (by decide)).mpr hi
      simp only [ev_seq, ev_if, ev_ret, ev_retv, ev_skip, ev_pop, ev_puti, ev_putz, ev_updf, ev_st, ev_stz, ev_upda, ev_scall, ev_int, ev_lng, ev_bin, ev_un, ev_div, ev_ldiv, ev_fi, ev_fr, ev_ld, ev_lr, ev_and, ev_or, ev_not, ev_of, ev_ite, ev_gnil, ev_gcons, ev_call, Option.bind_some, ev_loc0, ev_seti0, ev_setr0, ev_inc0, ev_loc1, ev_seti1, ev_setr1, ev_inc1, ev_loc2, ev_seti2, ev_setr2, ev_inc2, ev_loc3, ev_seti3, ev_setr3, ev_inc3, ev_loc4, ev_seti4, ev_setr4, ev_inc4, ev_loc5, ev_seti5, ev_setr5, ev_inc5, ev_loc6, ev_seti6, ev_setr6, ev_inc6, ev_loc7, ev_seti7, ev_setr7, ev_inc7, ev_loc8, ev_seti8, ev_setr8, ev_inc8, ev_lor0, ev_lor1, ev_lor2, ev_lor3, ev_isS, ok_same, List.length_cons, List.length_nil, Nat.zero_add, Nat.reduceAdd, BEq.rfl, if_true, io_274, jo_lt, jo_le, jo_gt, jo_ge, jo_eq, jo_ne, ent_1_1, ent_2_1, ent_2_2, ent_3_1, ent_3_2, ent_3_3, ent_4_1, ent_4_2, ent_4_3, ent_4_4, ent_5_1, ent_5_2, ent_5_3, ent_5_4, ent_5_5, ent_6_1, ent_6_2, ent_6_3, ent_6_4, ent_6_5, ent_6_6, ent_7_1, ent_7_2, ent_7_3, ent_7_4, ent_7_5, ent_7_6, ent_8_1, ent_8_2, ent_8_3, ent_8_4, ent_8_5, ent_8_6, ent_9_1, ent_9_2, ent_9_3, ent_9_4, ent_9_5, ent_9_6, if_false, decide_true, decide_false, Bool.false_eq_true, and_self, and_true, true_and, and_false, false_and, or_true, true_or, or_false, false_or, decide_eq_true_eq, not_true_eq_false, not_false_eq_true, jo_b_dec, Bool.not_true, Bool.not_false, h]
    · intro i hi
      have e : (74 : Int32) * nI n + nI i = nI (74 * n + i) := by
        rw [show (74 : Int32) * nI n = nI (74 * n) from nn_mul 74 n, nn_add]
      simp only [ev_seq, ev_if, ev_ret, ev_retv, ev_skip, ev_pop, ev_puti, ev_putz, ev_updf, ev_st, ev_stz, ev_upda, ev_scall, ev_int, ev_lng, ev_bin, ev_un, ev_div, ev_ldiv, ev_fi, ev_fr, ev_ld, ev_lr, ev_and, ev_or, ev_not, ev_of, ev_ite, ev_gnil, ev_gcons, ev_call, Option.bind_some, ev_loc0, ev_seti0, ev_setr0, ev_inc0, ev_loc1, ev_seti1, ev_setr1, ev_inc1, ev_loc2, ev_seti2, ev_setr2, ev_inc2, ev_loc3, ev_seti3, ev_setr3, ev_inc3, ev_loc4, ev_seti4, ev_setr4, ev_inc4, ev_loc5, ev_seti5, ev_setr5, ev_inc5, ev_loc6, ev_seti6, ev_setr6, ev_inc6, ev_loc7, ev_seti7, ev_setr7, ev_inc7, ev_loc8, ev_seti8, ev_setr8, ev_inc8, ev_lor0, ev_lor1, ev_lor2, ev_lor3, ev_isS, ok_same, List.length_cons, List.length_nil, Nat.zero_add, Nat.reduceAdd, BEq.rfl, if_true, io_274, jo_lt, jo_le, jo_gt, jo_ge, jo_eq, jo_ne, ent_1_1, ent_2_1, ent_2_2, ent_3_1, ent_3_2, ent_3_3, ent_4_1, ent_4_2, ent_4_3, ent_4_4, ent_5_1, ent_5_2, ent_5_3, ent_5_4, ent_5_5, ent_6_1, ent_6_2, ent_6_3, ent_6_4, ent_6_5, ent_6_6, ent_7_1, ent_7_2, ent_7_3, ent_7_4, ent_7_5, ent_7_6, ent_8_1, ent_8_2, ent_8_3, ent_8_4, ent_8_5, ent_8_6, ent_9_1, ent_9_2, ent_9_3, ent_9_4, ent_9_5, ent_9_6, if_false, decide_true, decide_false, Bool.false_eq_true, and_self, and_true, true_and, and_false, false_and, or_true, true_or, or_false, false_or, decide_eq_true_eq, not_true_eq_false, not_false_eq_true, jo_b_dec, Bool.not_true, Bool.not_false, gi_274_0, pi_274_0, gi_274_1, pi_274_1, gi_274_2, pi_274_2, gr_274_3, gr_274_4, gr_274_5, gi_274_6, pi_274_6, gr_274_7, gr_274_8, gr_274_9, gr_274_10, gr_274_11, gr_274_12, gi_274_13, pi_274_13, gr_274_14, gi_274_15, pi_274_15, gi_274_16, pi_274_16, gi_274_17, pi_274_17, gi_274_18, pi_274_18, gi_274_19, pi_274_19, gi_274_20, pi_274_20, gi_274_21, pi_274_21, gi_274_22, pi_274_22, gr_274_23, gr_274_24, gr_274_25, gi_274_26, pi_274_26, gr_274_27, gr_274_28, gr_274_29, gr_274_30, gr_274_31, gi_274_32, pi_274_32, gr_274_33, gr_274_34, gi_274_35, pi_274_35, gr_274_36, gr_274_37, gr_274_38, gr_274_39, gi_274_40, pi_274_40, gr_274_41, gr_274_42, gr_274_43, gr_274_44, ld_275, st_275, ld_276, st_276, ld_277, st_277, ld_278, st_278, ld_279, st_279, ld_280, st_280, ld_281, st_281, ld_282, st_282, ld_283, st_283, ld_284, st_284, ld_285, st_285, ld_286, st_286, ld_287, st_287, ld_288, st_288, ld_289, st_289, ld_290, st_290, ld_291, st_291, ld_292, st_292, ld_293, st_293, ld_294, st_294, ld_295, st_295, ld_296, st_296, ld_297, st_297, ld_298, st_298, ld_299, st_299, ld_300, st_300, ld_301, st_301, ld_302, st_302, wA_293_274, wA_293_283, h32, e, nn_in (show 74 * n + i < 1184 by omega) (by decide), nn_clamp (show 74 * n + i < 2147483648 by omega), nn_in (show i < 74 by omega) (by decide), nn_clamp (show i < 2147483648 by omega), wA_up, put_step, nn_succ]
    · have h : ¬ nI 74 < 74 := by decide
      simp only [ev_seq, ev_if, ev_ret, ev_retv, ev_skip, ev_pop, ev_puti, ev_putz, ev_updf, ev_st, ev_stz, ev_upda, ev_scall, ev_int, ev_lng, ev_bin, ev_un, ev_div, ev_ldiv, ev_fi, ev_fr, ev_ld, ev_lr, ev_and, ev_or, ev_not, ev_of, ev_ite, ev_gnil, ev_gcons, ev_call, Option.bind_some, ev_loc0, ev_seti0, ev_setr0, ev_inc0, ev_loc1, ev_seti1, ev_setr1, ev_inc1, ev_loc2, ev_seti2, ev_setr2, ev_inc2, ev_loc3, ev_seti3, ev_setr3, ev_inc3, ev_loc4, ev_seti4, ev_setr4, ev_inc4, ev_loc5, ev_seti5, ev_setr5, ev_inc5, ev_loc6, ev_seti6, ev_setr6, ev_inc6, ev_loc7, ev_seti7, ev_setr7, ev_inc7, ev_loc8, ev_seti8, ev_setr8, ev_inc8, ev_lor0, ev_lor1, ev_lor2, ev_lor3, ev_isS, ok_same, List.length_cons, List.length_nil, Nat.zero_add, Nat.reduceAdd, BEq.rfl, if_true, io_274, jo_lt, jo_le, jo_gt, jo_ge, jo_eq, jo_ne, ent_1_1, ent_2_1, ent_2_2, ent_3_1, ent_3_2, ent_3_3, ent_4_1, ent_4_2, ent_4_3, ent_4_4, ent_5_1, ent_5_2, ent_5_3, ent_5_4, ent_5_5, ent_6_1, ent_6_2, ent_6_3, ent_6_4, ent_6_5, ent_6_6, ent_7_1, ent_7_2, ent_7_3, ent_7_4, ent_7_5, ent_7_6, ent_8_1, ent_8_2, ent_8_3, ent_8_4, ent_8_5, ent_8_6, ent_9_1, ent_9_2, ent_9_3, ent_9_4, ent_9_5, ent_9_6, if_false, decide_true, decide_false, Bool.false_eq_true, and_self, and_true, true_and, and_false, false_and, or_true, true_or, or_false, false_or, decide_eq_true_eq, not_true_eq_false, not_false_eq_true, jo_b_dec, Bool.not_true, Bool.not_false, h]
  · simp only [ev_seq, ev_if, ev_ret, ev_retv, ev_skip, ev_pop, ev_puti, ev_putz, ev_updf, ev_st, ev_stz, ev_upda, ev_scall, ev_int, ev_lng, ev_bin, ev_un, ev_div, ev_ldiv, ev_fi, ev_fr, ev_ld, ev_lr, ev_and, ev_or, ev_not, ev_of, ev_ite, ev_gnil, ev_gcons, ev_call, Option.bind_some, ev_loc0, ev_seti0, ev_setr0, ev_inc0, ev_loc1, ev_seti1, ev_setr1, ev_inc1, ev_loc2, ev_seti2, ev_setr2, ev_inc2, ev_loc3, ev_seti3, ev_setr3, ev_inc3, ev_loc4, ev_seti4, ev_setr4, ev_inc4, ev_loc5, ev_seti5, ev_setr5, ev_inc5, ev_loc6, ev_seti6, ev_setr6, ev_inc6, ev_loc7, ev_seti7, ev_setr7, ev_inc7, ev_loc8, ev_seti8, ev_setr8, ev_inc8, ev_lor0, ev_lor1, ev_lor2, ev_lor3, ev_isS, ok_same, List.length_cons, List.length_nil, Nat.zero_add, Nat.reduceAdd, BEq.rfl, if_true, io_274, jo_lt, jo_le, jo_gt, jo_ge, jo_eq, jo_ne, ent_1_1, ent_2_1, ent_2_2, ent_3_1, ent_3_2, ent_3_3, ent_4_1, ent_4_2, ent_4_3, ent_4_4, ent_5_1, ent_5_2, ent_5_3, ent_5_4, ent_5_5, ent_6_1, ent_6_2, ent_6_3, ent_6_4, ent_6_5, ent_6_6, ent_7_1, ent_7_2, ent_7_3, ent_7_4, ent_7_5, ent_7_6, ent_8_1, ent_8_2, ent_8_3, ent_8_4, ent_8_5, ent_8_6, ent_9_1, ent_9_2, ent_9_3, ent_9_4, ent_9_5, ent_9_6, if_false, decide_true, decide_false, Bool.false_eq_true, and_self, and_true, true_and, and_false, false_and, or_true, true_or, or_false, false_or, decide_eq_true_eq, not_true_eq_false, not_false_eq_true, jo_b_dec, Bool.not_true, Bool.not_false, gi_274_0, pi_274_0, gi_274_1, pi_274_1, gi_274_2, pi_274_2, gr_274_3, gr_274_4, gr_274_5, gi_274_6, pi_274_6, gr_274_7, gr_274_8, gr_274_9, gr_274_10, gr_274_11, gr_274_12, gi_274_13, pi_274_13, gr_274_14, gi_274_15, pi_274_15, gi_274_16, pi_274_16, gi_274_17, pi_274_17, gi_274_18, pi_274_18, gi_274_19, pi_274_19, gi_274_20, pi_274_20, gi_274_21, pi_274_21, gi_274_22, pi_274_22, gr_274_23, gr_274_24, gr_274_25, gi_274_26, pi_274_26, gr_274_27, gr_274_28, gr_274_29, gr_274_30, gr_274_31, gi_274_32, pi_274_32, gr_274_33, gr_274_34, gi_274_35, pi_274_35, gr_274_36, gr_274_37, gr_274_38, gr_274_39, gi_274_40, pi_274_40, gr_274_41, gr_274_42, gr_274_43, gr_274_44, ld_275, st_275, ld_276, st_276, ld_277, st_277, ld_278, st_278, ld_279, st_279, ld_280, st_280, ld_281, st_281, ld_282, st_282, ld_283, st_283, ld_284, st_284, ld_285, st_285, ld_286, st_286, ld_287, st_287, ld_288, st_288, ld_289, st_289, ld_290, st_290, ld_291, st_291, ld_292, st_292, ld_293, st_293, ld_294, st_294, ld_295, st_295, ld_296, st_296, ld_297, st_297, ld_298, st_298, ld_299, st_299, ld_300, st_300, ld_301, st_301, ld_302, st_302, wA_293_274, h32, nn_succ]
theorem m_remember {f : Nat → Nat → Int32} {σ : sp_st} (hf : RM f σ) (ho : StOK σ) : ∃ f', MX9_remember [.ref 274] (SG, f) = some ((), (SG, f')) ∧ RM f' (st_withPast σ (sp_psh (st_ps σ) (st_now σ))) ∧ (∀ x, x ≠ 274 → x ≠ 293 → f' x = f x) := by
  have hnc := ho.1.2.1
  have hnp := ho.1.2.2.1
  have hl := ho.2.2.2.2.2.2.1.1
  obtain ⟨h32, hps⟩ := hf.2.2.2.2.2.2.2.1
  have i16 : jz_in (16 : Int32) 16 = false := by decide
  by_cases h16 : (st_ps σ).length < 16
  · have hne : ¬ nI (st_ps σ).length = 16 := fun h => by have := (nn_inj (n := 16) (by omega) (by decide)).mp h; omega
    obtain ⟨b, hb⟩ := m_lay h16 h32 none
    refine ⟨jz_up (wA 293 f (sp_put (74 * (st_ps σ).length) (f 293) (f 283) 74)) 274 32 (nI ((st_ps σ).length + 1)), ?_, RM.setPast hf ?_ ?_ ⟨?_, fun j s hs => ?_⟩, ?_⟩
    · refine run_V rfl ⟨rfl, Nat.le_of_ble_eq_true rfl⟩ ?_
      unfold BX9_remember
      refine seq_some [some (.ref 274), b] _ ?_ rfl
      refine seq_some [some (.ref 274), none] (SG, f) ?_ hb
      simp only [ev_seq, ev_if, ev_ret, ev_retv, ev_skip, ev_pop, ev_puti, ev_putz, ev_updf, ev_st, ev_stz, ev_upda, ev_scall, ev_int, ev_lng, ev_bin, ev_un, ev_div, ev_ldiv, ev_fi, ev_fr, ev_ld, ev_lr, ev_and, ev_or, ev_not, ev_of, ev_ite, ev_gnil, ev_gcons, ev_call, Option.bind_some, ev_loc0, ev_seti0, ev_setr0, ev_inc0, ev_loc1, ev_seti1, ev_setr1, ev_inc1, ev_loc2, ev_seti2, ev_setr2, ev_inc2, ev_loc3, ev_seti3, ev_setr3, ev_inc3, ev_loc4, ev_seti4, ev_setr4, ev_inc4, ev_loc5, ev_seti5, ev_setr5, ev_inc5, ev_loc6, ev_seti6, ev_setr6, ev_inc6, ev_loc7, ev_seti7, ev_setr7, ev_inc7, ev_loc8, ev_seti8, ev_setr8, ev_inc8, ev_lor0, ev_lor1, ev_lor2, ev_lor3, ev_isS, ok_same, List.length_cons, List.length_nil, Nat.zero_add, Nat.reduceAdd, BEq.rfl, if_true, io_274, jo_lt, jo_le, jo_gt, jo_ge, jo_eq, jo_ne, ent_1_1, ent_2_1, ent_2_2, ent_3_1, ent_3_2, ent_3_3, ent_4_1, ent_4_2, ent_4_3, ent_4_4, ent_5_1, ent_5_2, ent_5_3, ent_5_4, ent_5_5, ent_6_1, ent_6_2, ent_6_3, ent_6_4, ent_6_5, ent_6_6, ent_7_1, ent_7_2, ent_7_3, ent_7_4, ent_7_5, ent_7_6, ent_8_1, ent_8_2, ent_8_3, ent_8_4, ent_8_5, ent_8_6, ent_9_1, ent_9_2, ent_9_3, ent_9_4, ent_9_5, ent_9_6, if_false, decide_true, decide_false, Bool.false_eq_true, and_self, and_true, true_and, and_false, false_and, or_true, true_or, or_false, false_or, decide_eq_true_eq, not_true_eq_false, not_false_eq_true, jo_b_dec, Bool.not_true, Bool.not_false, gi_274_0, pi_274_0, gi_274_1, pi_274_1, gi_274_2, pi_274_2, gr_274_3, gr_274_4, gr_274_5, gi_274_6, pi_274_6, gr_274_7, gr_274_8, gr_274_9, gr_274_10, gr_274_11, gr_274_12, gi_274_13, pi_274_13, gr_274_14, gi_274_15, pi_274_15, gi_274_16, pi_274_16, gi_274_17, pi_274_17, gi_274_18, pi_274_18, gi_274_19, pi_274_19, gi_274_20, pi_274_20, gi_274_21, pi_274_21, gi_274_22, pi_274_22, gr_274_23, gr_274_24, gr_274_25, gi_274_26, pi_274_26, gr_274_27, gr_274_28, gr_274_29, gr_274_30, gr_274_31, gi_274_32, pi_274_32, gr_274_33, gr_274_34, gi_274_35, pi_274_35, gr_274_36, gr_274_37, gr_274_38, gr_274_39, gi_274_40, pi_274_40, gr_274_41, gr_274_42, gr_274_43, gr_274_44, ld_275, st_275, ld_276, st_276, ld_277, st_277, ld_278, st_278, ld_279, st_279, ld_280, st_280, ld_281, st_281, ld_282, st_282, ld_283, st_283, ld_284, st_284, ld_285, st_285, ld_286, st_286, ld_287, st_287, ld_288, st_288, ld_289, st_289, ld_290, st_290, ld_291, st_291, ld_292, st_292, ld_293, st_293, ld_294, st_294, ld_295, st_295, ld_296, st_296, ld_297, st_297, ld_298, st_298, ld_299, st_299, ld_300, st_300, ld_301, st_301, ld_302, st_302, h32, hne]
    · intro x hx1 hx2
      simp only [jz_up]
      rw [if_neg hx1, wA_ne hx2]
    · intro i hi
      simp only [jz_up, if_true, upd, hi, if_false]; rfl
    · rw [psh_len hl, Nat.min_eq_left (by omega)]
      simp only [jz_up, if_true, upd]
    · have e : (fun i => jz_up (wA 293 f (sp_put (74 * (st_ps σ).length) (f 293) (f 283) 74)) 274 32 (nI ((st_ps σ).length + 1)) 293 (74 * j + i)) = fun i => sp_put (74 * (st_ps σ).length) (f 293) (f 283) 74 (74 * j + i) := rfl
      rw [e]
      rcases psh_get hl hs with ⟨hj, rfl⟩ | ⟨hj, hg⟩
      · refine MS.congr hnc hnp (fun i hi => ?_) hf.2.1
        simp only [sp_put]
        rw [if_pos ⟨by omega, by omega⟩]; congr 1; omega
      · rw [if_pos h16] at hg
        refine MS.congr hnc hnp (fun i hi => ?_) (hps j s hg)
        simp only [sp_put]
        rw [if_neg (by omega)]
    · intro x hx1 hx2
      simp only [jz_up]
      rw [if_neg hx1, wA_ne hx2]
  · have e16 : (st_ps σ).length = 16 := by omega
    have h32' : f 274 32 = 16 := by rw [h32, e16]; rfl
    have hf1 : jz_up (wA 293 f (sp_shf (f 293) 1110)) 274 32 (nI 15) 274 32 = nI 15 := by simp only [jz_up, if_true, upd]
    obtain ⟨b, hb⟩ := m_lay (by decide) hf1 (some (.int (nI (74 + 1110))))
    refine ⟨jz_up (wA 293 (jz_up (wA 293 f (sp_shf (f 293) 1110)) 274 32 (nI 15)) (sp_put (74 * 15) (sp_shf (f 293) 1110) (f 283) 74)) 274 32 (nI (15 + 1)), ?_, RM.setPast hf ?_ ?_ ⟨?_, fun j s hs => ?_⟩, ?_⟩
    · refine run_V rfl ⟨rfl, Nat.le_of_ble_eq_true rfl⟩ ?_
      unfold BX9_remember
      refine seq_some [some (.ref 274), b] _ ?_ rfl
      refine seq_some [some (.ref 274), some (.int (nI (74 + 1110)))] (SG, jz_up (wA 293 f (sp_shf (f 293) 1110)) 274 32 (nI 15)) ?_ hb
      refine if_T (L := [some (.ref 274), none]) (h1 := (SG, f)) (by simp only [ev_seq, ev_if, ev_ret, ev_retv, ev_skip, ev_pop, ev_puti, ev_putz, ev_updf, ev_st, ev_stz, ev_upda, ev_scall, ev_int, ev_lng, ev_bin, ev_un, ev_div, ev_ldiv, ev_fi, ev_fr, ev_ld, ev_lr, ev_and, ev_or, ev_not, ev_of, ev_ite, ev_gnil, ev_gcons, ev_call, Option.bind_some, ev_loc0, ev_seti0, ev_setr0, ev_inc0, ev_loc1, ev_seti1, ev_setr1, ev_inc1, ev_loc2, ev_seti2, ev_setr2, ev_inc2, ev_loc3, ev_seti3, ev_setr3, ev_inc3, ev_loc4, ev_seti4, ev_setr4, ev_inc4, ev_loc5, ev_seti5, ev_setr5, ev_inc5, ev_loc6, ev_seti6, ev_setr6, ev_inc6, ev_loc7, ev_seti7, ev_setr7, ev_inc7, ev_loc8, ev_seti8, ev_setr8, ev_inc8, ev_lor0, ev_lor1, ev_lor2, ev_lor3, ev_isS, ok_same, List.length_cons, List.length_nil, Nat.zero_add, Nat.reduceAdd, BEq.rfl, if_true, io_274, jo_lt, jo_le, jo_gt, jo_ge, jo_eq, jo_ne, ent_1_1, ent_2_1, ent_2_2, ent_3_1, ent_3_2, ent_3_3, ent_4_1, ent_4_2, ent_4_3, ent_4_4, ent_5_1, ent_5_2, ent_5_3, ent_5_4, ent_5_5, ent_6_1, ent_6_2, ent_6_3, ent_6_4, ent_6_5, ent_6_6, ent_7_1, ent_7_2, ent_7_3, ent_7_4, ent_7_5, ent_7_6, ent_8_1, ent_8_2, ent_8_3, ent_8_4, ent_8_5, ent_8_6, ent_9_1, ent_9_2, ent_9_3, ent_9_4, ent_9_5, ent_9_6, if_false, decide_true, decide_false, Bool.false_eq_true, and_self, and_true, true_and, and_false, false_and, or_true, true_or, or_false, false_or, decide_eq_true_eq, not_true_eq_false, not_false_eq_true, jo_b_dec, Bool.not_true, Bool.not_false, gi_274_0, pi_274_0, gi_274_1, pi_274_1, gi_274_2, pi_274_2, gr_274_3, gr_274_4, gr_274_5, gi_274_6, pi_274_6, gr_274_7, gr_274_8, gr_274_9, gr_274_10, gr_274_11, gr_274_12, gi_274_13, pi_274_13, gr_274_14, gi_274_15, pi_274_15, gi_274_16, pi_274_16, gi_274_17, pi_274_17, gi_274_18, pi_274_18, gi_274_19, pi_274_19, gi_274_20, pi_274_20, gi_274_21, pi_274_21, gi_274_22, pi_274_22, gr_274_23, gr_274_24, gr_274_25, gi_274_26, pi_274_26, gr_274_27, gr_274_28, gr_274_29, gr_274_30, gr_274_31, gi_274_32, pi_274_32, gr_274_33, gr_274_34, gi_274_35, pi_274_35, gr_274_36, gr_274_37, gr_274_38, gr_274_39, gi_274_40, pi_274_40, gr_274_41, gr_274_42, gr_274_43, gr_274_44, ld_275, st_275, ld_276, st_276, ld_277, st_277, ld_278, st_278, ld_279, st_279, ld_280, st_280, ld_281, st_281, ld_282, st_282, ld_283, st_283, ld_284, st_284, ld_285, st_285, ld_286, st_286, ld_287, st_287, ld_288, st_288, ld_289, st_289, ld_290, st_290, ld_291, st_291, ld_292, st_292, ld_293, st_293, ld_294, st_294, ld_295, st_295, ld_296, st_296, ld_297, st_297, ld_298, st_298, ld_299, st_299, ld_300, st_300, ld_301, st_301, ld_302, st_302, h32']) ?_
      refine seq_some [some (.ref 274), some (.int (nI (74 + 1110)))] (SG, wA 293 f (sp_shf (f 293) 1110)) ?_ ?_
      · refine seq_some [some (.ref 274), some (.int (nI (74 + 0)))] (SG, f) rfl ?_
        refine for_some (fun i => ([some (.ref 274), some (.int (nI (74 + i)))], (SG, wA 293 f (sp_shf (f 293) i)))) 1110 ?_ (by decide) ?_ ?_ ?_
        · show (_, (SG, f)) = (_, (SG, wA 293 f (sp_shf (f 293) 0)))
          have e0 : sp_shf (f 293) 0 = f 293 := funext fun k => if_neg (Nat.not_lt_zero k)
          rw [e0, wA_id 293 f rfl]
        · intro i hi
          have h : nI (74 + i) < 1184 := (nn_lt (n := 1184) (by omega) (by decide)).mpr (by omega)
          simp only [ev_seq, ev_if, ev_ret, ev_retv, ev_skip, ev_pop, ev_puti, ev_putz, ev_updf, ev_st, ev_stz, ev_upda, ev_scall, ev_int, ev_lng, ev_bin, ev_un, ev_div, ev_ldiv, ev_fi, ev_fr, ev_ld, ev_lr, ev_and, ev_or, ev_not, ev_of, ev_ite, ev_gnil, ev_gcons, ev_call, Option.bind_some, ev_loc0, ev_seti0, ev_setr0, ev_inc0, ev_loc1, ev_seti1, ev_setr1, ev_inc1, ev_loc2, ev_seti2, ev_setr2, ev_inc2, ev_loc3, ev_seti3, ev_setr3, ev_inc3, ev_loc4, ev_seti4, ev_setr4, ev_inc4, ev_loc5, ev_seti5, ev_setr5, ev_inc5, ev_loc6, ev_seti6, ev_setr6, ev_inc6, ev_loc7, ev_seti7, ev_setr7, ev_inc7, ev_loc8, ev_seti8, ev_setr8, ev_inc8, ev_lor0, ev_lor1, ev_lor2, ev_lor3, ev_isS, ok_same, List.length_cons, List.length_nil, Nat.zero_add, Nat.reduceAdd, BEq.rfl, if_true, io_274, jo_lt, jo_le, jo_gt, jo_ge, jo_eq, jo_ne, ent_1_1, ent_2_1, ent_2_2, ent_3_1, ent_3_2, ent_3_3, ent_4_1, ent_4_2, ent_4_3, ent_4_4, ent_5_1, ent_5_2, ent_5_3, ent_5_4, ent_5_5, ent_6_1, ent_6_2, ent_6_3, ent_6_4, ent_6_5, ent_6_6, ent_7_1, ent_7_2, ent_7_3, ent_7_4, ent_7_5, ent_7_6, ent_8_1, ent_8_2, ent_8_3, ent_8_4, ent_8_5, ent_8_6, ent_9_1, ent_9_2, ent_9_3, ent_9_4, ent_9_5, ent_9_6, if_false, decide_true, decide_false, Bool.false_eq_true, and_self, and_true, true_and, and_false, false_and, or_true, true_or, or_false, false_or, decide_eq_true_eq, not_true_eq_false, not_false_eq_true, jo_b_dec, Bool.not_true, Bool.not_false, h]
        · intro i hi
          have e : nI (74 + i) - 74 = nI i := by rw [show nI (74 + i) - 74 = nI (74 + i - 74) from nn_sub (b := 74) (by omega), Nat.add_sub_cancel_left]
          have e2 : sp_shf (f 293) i (74 + i) = f 293 (74 + i) := if_neg (by omega)
          have e3 : nI (74 + i) + 1 = nI (74 + (i + 1)) := nn_succ _
          simp only [ev_seq, ev_if, ev_ret, ev_retv, ev_skip, ev_pop, ev_puti, ev_putz, ev_updf, ev_st, ev_stz, ev_upda, ev_scall, ev_int, ev_lng, ev_bin, ev_un, ev_div, ev_ldiv, ev_fi, ev_fr, ev_ld, ev_lr, ev_and, ev_or, ev_not, ev_of, ev_ite, ev_gnil, ev_gcons, ev_call, Option.bind_some, ev_loc0, ev_seti0, ev_setr0, ev_inc0, ev_loc1, ev_seti1, ev_setr1, ev_inc1, ev_loc2, ev_seti2, ev_setr2, ev_inc2, ev_loc3, ev_seti3, ev_setr3, ev_inc3, ev_loc4, ev_seti4, ev_setr4, ev_inc4, ev_loc5, ev_seti5, ev_setr5, ev_inc5, ev_loc6, ev_seti6, ev_setr6, ev_inc6, ev_loc7, ev_seti7, ev_setr7, ev_inc7, ev_loc8, ev_seti8, ev_setr8, ev_inc8, ev_lor0, ev_lor1, ev_lor2, ev_lor3, ev_isS, ok_same, List.length_cons, List.length_nil, Nat.zero_add, Nat.reduceAdd, BEq.rfl, if_true, io_274, jo_lt, jo_le, jo_gt, jo_ge, jo_eq, jo_ne, ent_1_1, ent_2_1, ent_2_2, ent_3_1, ent_3_2, ent_3_3, ent_4_1, ent_4_2, ent_4_3, ent_4_4, ent_5_1, ent_5_2, ent_5_3, ent_5_4, ent_5_5, ent_6_1, ent_6_2, ent_6_3, ent_6_4, ent_6_5, ent_6_6, ent_7_1, ent_7_2, ent_7_3, ent_7_4, ent_7_5, ent_7_6, ent_8_1, ent_8_2, ent_8_3, ent_8_4, ent_8_5, ent_8_6, ent_9_1, ent_9_2, ent_9_3, ent_9_4, ent_9_5, ent_9_6, if_false, decide_true, decide_false, Bool.false_eq_true, and_self, and_true, true_and, and_false, false_and, or_true, true_or, or_false, false_or, decide_eq_true_eq, not_true_eq_false, not_false_eq_true, jo_b_dec, Bool.not_true, Bool.not_false, gi_274_0, pi_274_0, gi_274_1, pi_274_1, gi_274_2, pi_274_2, gr_274_3, gr_274_4, gr_274_5, gi_274_6, pi_274_6, gr_274_7, gr_274_8, gr_274_9, gr_274_10, gr_274_11, gr_274_12, gi_274_13, pi_274_13, gr_274_14, gi_274_15, pi_274_15, gi_274_16, pi_274_16, gi_274_17, pi_274_17, gi_274_18, pi_274_18, gi_274_19, pi_274_19, gi_274_20, pi_274_20, gi_274_21, pi_274_21, gi_274_22, pi_274_22, gr_274_23, gr_274_24, gr_274_25, gi_274_26, pi_274_26, gr_274_27, gr_274_28, gr_274_29, gr_274_30, gr_274_31, gi_274_32, pi_274_32, gr_274_33, gr_274_34, gi_274_35, pi_274_35, gr_274_36, gr_274_37, gr_274_38, gr_274_39, gi_274_40, pi_274_40, gr_274_41, gr_274_42, gr_274_43, gr_274_44, ld_275, st_275, ld_276, st_276, ld_277, st_277, ld_278, st_278, ld_279, st_279, ld_280, st_280, ld_281, st_281, ld_282, st_282, ld_283, st_283, ld_284, st_284, ld_285, st_285, ld_286, st_286, ld_287, st_287, ld_288, st_288, ld_289, st_289, ld_290, st_290, ld_291, st_291, ld_292, st_292, ld_293, st_293, ld_294, st_294, ld_295, st_295, ld_296, st_296, ld_297, st_297, ld_298, st_298, ld_299, st_299, ld_300, st_300, ld_301, st_301, ld_302, st_302, wA_at, e, e2, e3, nn_in (show 74 + i < 1184 by omega) (by decide), nn_clamp (show 74 + i < 2147483648 by omega), nn_in (show i < 1184 by omega) (by decide), nn_clamp (show i < 2147483648 by omega), wA_up, shf_step]
        · have h : ¬ nI (74 + 1110) < 1184 := by decide
          simp only [ev_seq, ev_if, ev_ret, ev_retv, ev_skip, ev_pop, ev_puti, ev_putz, ev_updf, ev_st, ev_stz, ev_upda, ev_scall, ev_int, ev_lng, ev_bin, ev_un, ev_div, ev_ldiv, ev_fi, ev_fr, ev_ld, ev_lr, ev_and, ev_or, ev_not, ev_of, ev_ite, ev_gnil, ev_gcons, ev_call, Option.bind_some, ev_loc0, ev_seti0, ev_setr0, ev_inc0, ev_loc1, ev_seti1, ev_setr1, ev_inc1, ev_loc2, ev_seti2, ev_setr2, ev_inc2, ev_loc3, ev_seti3, ev_setr3, ev_inc3, ev_loc4, ev_seti4, ev_setr4, ev_inc4, ev_loc5, ev_seti5, ev_setr5, ev_inc5, ev_loc6, ev_seti6, ev_setr6, ev_inc6, ev_loc7, ev_seti7, ev_setr7, ev_inc7, ev_loc8, ev_seti8, ev_setr8, ev_inc8, ev_lor0, ev_lor1, ev_lor2, ev_lor3, ev_isS, ok_same, List.length_cons, List.length_nil, Nat.zero_add, Nat.reduceAdd, BEq.rfl, if_true, io_274, jo_lt, jo_le, jo_gt, jo_ge, jo_eq, jo_ne, ent_1_1, ent_2_1, ent_2_2, ent_3_1, ent_3_2, ent_3_3, ent_4_1, ent_4_2, ent_4_3, ent_4_4, ent_5_1, ent_5_2, ent_5_3, ent_5_4, ent_5_5, ent_6_1, ent_6_2, ent_6_3, ent_6_4, ent_6_5, ent_6_6, ent_7_1, ent_7_2, ent_7_3, ent_7_4, ent_7_5, ent_7_6, ent_8_1, ent_8_2, ent_8_3, ent_8_4, ent_8_5, ent_8_6, ent_9_1, ent_9_2, ent_9_3, ent_9_4, ent_9_5, ent_9_6, if_false, decide_true, decide_false, Bool.false_eq_true, and_self, and_true, true_and, and_false, false_and, or_true, true_or, or_false, false_or, decide_eq_true_eq, not_true_eq_false, not_false_eq_true, jo_b_dec, Bool.not_true, Bool.not_false, h]
      · have e : (16 : Int32) - 1 = nI 15 := by decide
        simp only [ev_seq, ev_if, ev_ret, ev_retv, ev_skip, ev_pop, ev_puti, ev_putz, ev_updf, ev_st, ev_stz, ev_upda, ev_scall, ev_int, ev_lng, ev_bin, ev_un, ev_div, ev_ldiv, ev_fi, ev_fr, ev_ld, ev_lr, ev_and, ev_or, ev_not, ev_of, ev_ite, ev_gnil, ev_gcons, ev_call, Option.bind_some, ev_loc0, ev_seti0, ev_setr0, ev_inc0, ev_loc1, ev_seti1, ev_setr1, ev_inc1, ev_loc2, ev_seti2, ev_setr2, ev_inc2, ev_loc3, ev_seti3, ev_setr3, ev_inc3, ev_loc4, ev_seti4, ev_setr4, ev_inc4, ev_loc5, ev_seti5, ev_setr5, ev_inc5, ev_loc6, ev_seti6, ev_setr6, ev_inc6, ev_loc7, ev_seti7, ev_setr7, ev_inc7, ev_loc8, ev_seti8, ev_setr8, ev_inc8, ev_lor0, ev_lor1, ev_lor2, ev_lor3, ev_isS, ok_same, List.length_cons, List.length_nil, Nat.zero_add, Nat.reduceAdd, BEq.rfl, if_true, io_274, jo_lt, jo_le, jo_gt, jo_ge, jo_eq, jo_ne, ent_1_1, ent_2_1, ent_2_2, ent_3_1, ent_3_2, ent_3_3, ent_4_1, ent_4_2, ent_4_3, ent_4_4, ent_5_1, ent_5_2, ent_5_3, ent_5_4, ent_5_5, ent_6_1, ent_6_2, ent_6_3, ent_6_4, ent_6_5, ent_6_6, ent_7_1, ent_7_2, ent_7_3, ent_7_4, ent_7_5, ent_7_6, ent_8_1, ent_8_2, ent_8_3, ent_8_4, ent_8_5, ent_8_6, ent_9_1, ent_9_2, ent_9_3, ent_9_4, ent_9_5, ent_9_6, if_false, decide_true, decide_false, Bool.false_eq_true, and_self, and_true, true_and, and_false, false_and, or_true, true_or, or_false, false_or, decide_eq_true_eq, not_true_eq_false, not_false_eq_true, jo_b_dec, Bool.not_true, Bool.not_false, gi_274_0, pi_274_0, gi_274_1, pi_274_1, gi_274_2, pi_274_2, gr_274_3, gr_274_4, gr_274_5, gi_274_6, pi_274_6, gr_274_7, gr_274_8, gr_274_9, gr_274_10, gr_274_11, gr_274_12, gi_274_13, pi_274_13, gr_274_14, gi_274_15, pi_274_15, gi_274_16, pi_274_16, gi_274_17, pi_274_17, gi_274_18, pi_274_18, gi_274_19, pi_274_19, gi_274_20, pi_274_20, gi_274_21, pi_274_21, gi_274_22, pi_274_22, gr_274_23, gr_274_24, gr_274_25, gi_274_26, pi_274_26, gr_274_27, gr_274_28, gr_274_29, gr_274_30, gr_274_31, gi_274_32, pi_274_32, gr_274_33, gr_274_34, gi_274_35, pi_274_35, gr_274_36, gr_274_37, gr_274_38, gr_274_39, gi_274_40, pi_274_40, gr_274_41, gr_274_42, gr_274_43, gr_274_44, ld_275, st_275, ld_276, st_276, ld_277, st_277, ld_278, st_278, ld_279, st_279, ld_280, st_280, ld_281, st_281, ld_282, st_282, ld_283, st_283, ld_284, st_284, ld_285, st_285, ld_286, st_286, ld_287, st_287, ld_288, st_288, ld_289, st_289, ld_290, st_290, ld_291, st_291, ld_292, st_292, ld_293, st_293, ld_294, st_294, ld_295, st_295, ld_296, st_296, ld_297, st_297, ld_298, st_298, ld_299, st_299, ld_300, st_300, ld_301, st_301, ld_302, st_302, wA_293_274, h32', e]
    · intro x hx1 hx2
      rw [uq_far hx1, wA_ne hx2, uq_far hx1, wA_ne hx2]
    · intro i hi
      rw [uq_ne hi, wA_293_274, uq_ne hi, wA_293_274]
    · rw [psh_len hl, e16]
      simp only [jz_up, if_true, upd]; rfl
    · have e : (fun i => jz_up (wA 293 (jz_up (wA 293 f (sp_shf (f 293) 1110)) 274 32 (nI 15)) (sp_put (74 * 15) (sp_shf (f 293) 1110) (f 283) 74)) 274 32 (nI (15 + 1)) 293 (74 * j + i)) = fun i => sp_put (74 * 15) (sp_shf (f 293) 1110) (f 283) 74 (74 * j + i) := rfl
      rw [e]
      rcases psh_get hl hs with ⟨hj, rfl⟩ | ⟨hj, hg⟩
      · refine MS.congr hnc hnp (fun i hi => ?_) hf.2.1
        simp only [sp_put]
        rw [if_pos ⟨by omega, by omega⟩, show 74 * j + i - 74 * 15 = i by omega]
      · rw [if_neg h16] at hg
        refine MS.congr hnc hnp (fun i hi => ?_) (hps (j + 1) s hg)
        simp only [sp_put, sp_shf]
        rw [if_neg (by omega), if_pos (by omega), show 74 * j + i + 74 = 74 * (j + 1) + i by omega]
    · intro x hx1 hx2
      rw [uq_far hx1, wA_ne hx2, uq_far hx1, wA_ne hx2]
