/-! clauses, as the class reads them -/
abbrev rd_A : Type := Nat × Nat × Nat × (Nat → Int32) × (Nat → Int32) × (Nat → Int32)
abbrev ra_ni (A : rd_A) : Nat := A.1
abbrev ra_nc (A : rd_A) : Nat := A.2.1
abbrev ra_np (A : rd_A) : Nat := A.2.2.1
abbrev ra_V (A : rd_A) : Nat → Int32 := A.2.2.2.1
abbrev ra_K (A : rd_A) : Nat → Int32 := A.2.2.2.2.1
abbrev ra_W (A : rd_A) : Nat → Int32 := A.2.2.2.2.2
def AOK (A : rd_A) : Prop := RoadOK (ra_ni A) (ra_nc A) (ra_np A) (ra_K A) (ra_W A) ∧ DayOK (ra_ni A) (ra_nc A) (ra_np A) 0 (ra_V A) ∧ (∀ p, p < 7 → ra_V A (44 + p) = 0)
def XA (f : Nat → Nat → Int32) (A : rd_A) : Prop := f 3 0 = nI (ra_ni A) ∧ f 3 1 = nI (ra_nc A) ∧ f 3 2 = nI (ra_np A) ∧ (∀ p, p < ra_np A → f 4 p = ra_K A p) ∧ (∀ p, p < ra_np A → f 5 p = ra_W A p) ∧ XD f 6 (ra_nc A) (ra_np A) (ra_V A)
theorem XA.keep {f f' : Nat → Nat → Int32} {A : rd_A} (h : XA f A) (hk : ∀ x, x ≠ 1 → f' x = f x) : XA f' A := by
  obtain ⟨h1, h2, h3, h4, h5, h6⟩ := h
  refine ⟨by rw [hk 3 (by decide)]; exact h1, by rw [hk 3 (by decide)]; exact h2, by rw [hk 3 (by decide)]; exact h3, by rw [hk 4 (by decide)]; exact h4, by rw [hk 5 (by decide)]; exact h5, XD.keep (fun j hj => hk _ (by omega)) h6⟩
theorem XD.extc {f : Nat → Nat → Int32} {d nc np : Nat} {V : Nat → Int32} (h : XD f d nc np V) (h1 : f (d + 1) nc = V nc) (h2 : f (d + 2) nc = V (4 + nc)) (h3 : f (d + 3) nc = V (8 + nc)) (h4 : f (d + 4) nc = V (12 + nc)) : XD f d (nc + 1) np V := by
  refine ⟨fun c hc => ?_, h.2⟩
  by_cases e : c = nc
  · subst e; exact ⟨h1, h2, h3, h4⟩
  · exact h.1 c (by omega)
theorem XD.extp {f : Nat → Nat → Int32} {d nc np : Nat} {V : Nat → Int32} (h : XD f d nc np V) (h1 : f (d + 5) np = V (16 + np)) (h2 : f (d + 6) np = V (23 + np)) (h3 : f (d + 7) np = V (30 + np)) (h4 : f (d + 8) np = V (37 + np)) (h5 : f (d + 9) np = V (44 + np)) : XD f d nc (np + 1) V := by
  refine ⟨h.1, fun p hp => ?_, h.2.2⟩
  by_cases e : p = np
  · subst e; exact ⟨h1, h2, h3, h4, h5⟩
  · exact h.2.1 p (by omega)
/-- alike but for the reader's place -/
def Eq1 (f g : Nat → Nat → Int32) : Prop := ∀ x, x ≠ 1 → f x = g x
theorem Eq1.up {f g : Nat → Nat → Int32} (h : Eq1 f g) {a k : Nat} (ha : a ≠ 1) (v : Int32) : Eq1 (jz_up f a k v) (jz_up g a k v) := by
  intro x hx
  funext i
  rw [cell_ite, cell_ite, h x hx]
theorem Eq1.then {f g e : Nat → Nat → Int32} (h : Eq1 f g) (h2 : ∀ x, x ≠ 1 → e x = f x) : Eq1 e g := fun x hx => by rw [h2 x hx, h x hx]
theorem XCs.up {f : Nat → Nat → Int32} {n : Nat} {s : rd_R} (h : XCs f n s) {a k : Nat} (ha : a ≠ 1) (v : Int32) : XCs (jz_up f a k v) n s := by
  have e : jz_up f a k v 1 = f 1 := uq_far (by omega)
  unfold XCs XC at h ⊢
  rw [e]; exact h
theorem XT.up {f : Nat → Nat → Int32} {t : Nat → Nat} {n : Nat} (h : XT f t n) {a k : Nat} (ha : a ≠ 2) (v : Int32) : XT (jz_up f a k v) t n := h.keep (uq_far (by omega))
def rd_en (t : Nat → Nat) (n : Nat) (s : rd_R) : rd_R := match s with
  | .inl e => .inl e
  | .inr p => if rd_sk t n p < n ∧ t (rd_sk t n p) = 59 then .inr (rd_sk t n p + 1) else .inl (1, rd_sk t n p)
section
variable {f : Nat → Nat → Int32} {t : Nat → Nat} {n : Nat}
theorem x_end (hT : XT f t n) {s : rd_R} (hs : XCs f n s) : ∃ f', MX5_readEnd [.ref 1] (SG, f) = some ((), (SG, f')) ∧ XCs f' n (rd_en t n s) ∧ ∀ x, x ≠ 1 → f' x = f x := by
  have n240 := hT.1
  have go : ∀ p k w, p ≤ n → XC f n p k w → MX5_skipBlanks [.ref 1] (SG, f) = some ((), (SG, jz_up f 1 2 (nI (rd_sk t n p)))) ∧ rd_sk t n p ≤ n ∧ XC (jz_up f 1 2 (nI (rd_sk t n p))) n (rd_sk t n p) k w := fun p k w hp hc => ⟨x_skip hT hp hc, (sk_spec t).2.1 hp, hc.set2⟩
  have at_ : ∀ q, q < n → jz_up f 1 2 (nI q) 2 q = nI (t q) := fun q hq => by rw [uq_far (by decide)]; exact hT.2.2 q hq
  have e59 : ∀ q, (nI (t q) = 59) = (t q = 59) := fun q => propext (nn_inj (n := 59) (by have := hT.2.1 q; omega) (by decide))
  cases s with
  | inl e =>
    obtain ⟨he, p, hp, hc⟩ := hs
    obtain ⟨k1, hq, hc1⟩ := go p e.1 _ hp hc
    generalize hqe : rd_sk t n p = q at k1 hq hc1
    have hne : ¬ jz_up f 1 2 (nI q) 1 3 = 0 := by
      rw [hc1.2.2.1]
      exact fun h => by
        have := (nn_inj (n := 0) (by omega) (by decide)).mp h
        omega
    have k3 : ∀ u v, MX5_blame [.ref 1, .int u, .int v] (SG, jz_up f 1 2 (nI q)) = some ((), (SG, jz_up f 1 2 (nI q))) := fun u v => x_blame1 hne
    have h1 := hc1.1
    have h2 := hc1.2.1
    by_cases hqn : q < n
    · have hlt : ¬ nI n ≤ nI q := fun h => by
        have := (nn_le (by omega) (by omega)).mp h
        omega
      have ha := at_ q hqn
      by_cases h59 : t q = 59
      · have hz : (nI (t q) = 59) = True := eq_true (cast (e59 q).symm h59)
        refine ⟨jz_up (jz_up f 1 2 (nI q)) 1 2 (nI (q + 1)), run_V rfl ⟨rfl, Nat.le_of_ble_eq_true rfl⟩ ?_, ⟨he, q + 1, hqn, ?_⟩, fun x hx => by rw [uq_far hx, uq_far hx]⟩
        · unfold BX5_readEnd
          simp only [ev_seq, ev_if, ev_ret, ev_retv, ev_skip, ev_pop, ev_puti, ev_putz, ev_updf, ev_st, ev_stz, ev_upda, ev_scall, ev_int, ev_lng, ev_bin, ev_un, ev_div, ev_ldiv, ev_fi, ev_fr, ev_ld, ev_lr, ev_and, ev_or, ev_not, ev_of, ev_ite, ev_gnil, ev_gcons, ev_call, Option.bind_some, ev_loc0, ev_seti0, ev_setr0, ev_inc0, ev_loc1, ev_seti1, ev_setr1, ev_inc1, ev_loc2, ev_seti2, ev_setr2, ev_inc2, ev_loc3, ev_seti3, ev_setr3, ev_inc3, ev_loc4, ev_seti4, ev_setr4, ev_inc4, ev_loc5, ev_seti5, ev_setr5, ev_inc5, ev_loc6, ev_seti6, ev_setr6, ev_inc6, ev_loc7, ev_seti7, ev_setr7, ev_inc7, ev_loc8, ev_seti8, ev_setr8, ev_inc8, ev_lor0, ev_lor1, ev_lor2, ev_lor3, ev_isS, ok_same, List.length_cons, List.length_nil, Nat.zero_add, Nat.reduceAdd, BEq.rfl, if_true, io_274, jo_lt, jo_le, jo_gt, jo_ge, jo_eq, jo_ne, ent_1_1, ent_2_1, ent_2_2, ent_3_1, ent_3_2, ent_3_3, ent_4_1, ent_4_2, ent_4_3, ent_4_4, ent_5_1, ent_5_2, ent_5_3, ent_5_4, ent_5_5, ent_6_1, ent_6_2, ent_6_3, ent_6_4, ent_6_5, ent_6_6, ent_7_1, ent_7_2, ent_7_3, ent_7_4, ent_7_5, ent_7_6, ent_8_1, ent_8_2, ent_8_3, ent_8_4, ent_8_5, ent_8_6, ent_9_1, ent_9_2, ent_9_3, ent_9_4, ent_9_5, ent_9_6, if_false, decide_true, decide_false, Bool.false_eq_true, and_self, and_true, true_and, and_false, false_and, or_true, true_or, or_false, false_or, decide_eq_true_eq, not_true_eq_false, not_false_eq_true, jo_b_dec, Bool.not_true, Bool.not_false, gr_0_0, gr_0_1, gr_0_2, gr_0_3, gr_0_4, gr_0_5, gr_0_6, gr_0_7, gi_0_8, gi_0_9, pi_0_8, pi_0_9, io_0, gr_1_0, gi_1_1, gi_1_2, gi_1_3, gi_1_4, pi_1_1, pi_1_2, pi_1_3, pi_1_4, gr_1_5, gr_1_6, io_1, ld_2, st_2, gi_18_0, gi_18_1, gi_18_2, gr_18_3, gr_18_4, pi_18_0, pi_18_1, pi_18_2, io_18, ld_19, ld_20, st_19, st_20, gr_45_0, gi_45_1, gi_45_2, pi_45_1, pi_45_2, io_45, gr_240_0, gr_240_1, gr_240_2, gr_240_3, gi_240_4, pi_240_4, io_240, ld_241, st_241, ld_242, st_242, ld_243, st_243, ld_244, st_244, ld_246, st_246, ld_247, st_247, gr_245_0, gr_245_1, gi_245_2, pi_245_2, io_245, k1, h1, h2, hlt, nn_in (show q < 240 by omega) (by decide), nn_clamp (show q < 2147483648 by omega), ha, hz, nn_succ]
        · exact XC.set2 hc1
      · have hz : (nI (t q) = 59) = False := eq_false (fun h => h59 (cast (e59 q) h))
        refine ⟨jz_up f 1 2 (nI q), run_V rfl ⟨rfl, Nat.le_of_ble_eq_true rfl⟩ ?_, ⟨he, q, hq, hc1⟩, fun x hx => uq_far hx⟩
        unfold BX5_readEnd
        simp only [ev_seq, ev_if, ev_ret, ev_retv, ev_skip, ev_pop, ev_puti, ev_putz, ev_updf, ev_st, ev_stz, ev_upda, ev_scall, ev_int, ev_lng, ev_bin, ev_un, ev_div, ev_ldiv, ev_fi, ev_fr, ev_ld, ev_lr, ev_and, ev_or, ev_not, ev_of, ev_ite, ev_gnil, ev_gcons, ev_call, Option.bind_some, ev_loc0, ev_seti0, ev_setr0, ev_inc0, ev_loc1, ev_seti1, ev_setr1, ev_inc1, ev_loc2, ev_seti2, ev_setr2, ev_inc2, ev_loc3, ev_seti3, ev_setr3, ev_inc3, ev_loc4, ev_seti4, ev_setr4, ev_inc4, ev_loc5, ev_seti5, ev_setr5, ev_inc5, ev_loc6, ev_seti6, ev_setr6, ev_inc6, ev_loc7, ev_seti7, ev_setr7, ev_inc7, ev_loc8, ev_seti8, ev_setr8, ev_inc8, ev_lor0, ev_lor1, ev_lor2, ev_lor3, ev_isS, ok_same, List.length_cons, List.length_nil, Nat.zero_add, Nat.reduceAdd, BEq.rfl, if_true, io_274, jo_lt, jo_le, jo_gt, jo_ge, jo_eq, jo_ne, ent_1_1, ent_2_1, ent_2_2, ent_3_1, ent_3_2, ent_3_3, ent_4_1, ent_4_2, ent_4_3, ent_4_4, ent_5_1, ent_5_2, ent_5_3, ent_5_4, ent_5_5, ent_6_1, ent_6_2, ent_6_3, ent_6_4, ent_6_5, ent_6_6, ent_7_1, ent_7_2, ent_7_3, ent_7_4, ent_7_5, ent_7_6, ent_8_1, ent_8_2, ent_8_3, ent_8_4, ent_8_5, ent_8_6, ent_9_1, ent_9_2, ent_9_3, ent_9_4, ent_9_5, ent_9_6, if_false, decide_true, decide_false, Bool.false_eq_true, and_self, and_true, true_and, and_false, false_and, or_true, true_or, or_false, false_or, decide_eq_true_eq, not_true_eq_false, not_false_eq_true, jo_b_dec, Bool.not_true, Bool.not_false, gr_0_0, gr_0_1, gr_0_2, gr_0_3, gr_0_4, gr_0_5, gr_0_6, gr_0_7, gi_0_8, gi_0_9, pi_0_8, pi_0_9, io_0, gr_1_0, gi_1_1, gi_1_2, gi_1_3, gi_1_4, pi_1_1, pi_1_2, pi_1_3, pi_1_4, gr_1_5, gr_1_6, io_1, ld_2, st_2, gi_18_0, gi_18_1, gi_18_2, gr_18_3, gr_18_4, pi_18_0, pi_18_1, pi_18_2, io_18, ld_19, ld_20, st_19, st_20, gr_45_0, gi_45_1, gi_45_2, pi_45_1, pi_45_2, io_45, gr_240_0, gr_240_1, gr_240_2, gr_240_3, gi_240_4, pi_240_4, io_240, ld_241, st_241, ld_242, st_242, ld_243, st_243, ld_244, st_244, ld_246, st_246, ld_247, st_247, gr_245_0, gr_245_1, gi_245_2, pi_245_2, io_245, k1, h1, h2, hlt, nn_in (show q < 240 by omega) (by decide), nn_clamp (show q < 2147483648 by omega), ha, hz, k3]
    · have hlt : nI n ≤ nI q := (nn_le (by omega) (by omega)).mpr (by omega)
      refine ⟨jz_up f 1 2 (nI q), run_V rfl ⟨rfl, Nat.le_of_ble_eq_true rfl⟩ ?_, ⟨he, q, hq, hc1⟩, fun x hx => uq_far hx⟩
      unfold BX5_readEnd
      simp only [ev_seq, ev_if, ev_ret, ev_retv, ev_skip, ev_pop, ev_puti, ev_putz, ev_updf, ev_st, ev_stz, ev_upda, ev_scall, ev_int, ev_lng, ev_bin, ev_un, ev_div, ev_ldiv, ev_fi, ev_fr, ev_ld, ev_lr, ev_and, ev_or, ev_not, ev_of, ev_ite, ev_gnil, ev_gcons, ev_call, Option.bind_some, ev_loc0, ev_seti0, ev_setr0, ev_inc0, ev_loc1, ev_seti1, ev_setr1, ev_inc1, ev_loc2, ev_seti2, ev_setr2, ev_inc2, ev_loc3, ev_seti3, ev_setr3, ev_inc3, ev_loc4, ev_seti4, ev_setr4, ev_inc4, ev_loc5, ev_seti5, ev_setr5, ev_inc5, ev_loc6, ev_seti6, ev_setr6, ev_inc6, ev_loc7, ev_seti7, ev_setr7, ev_inc7, ev_loc8, ev_seti8, ev_setr8, ev_inc8, ev_lor0, ev_lor1, ev_lor2, ev_lor3, ev_isS, ok_same, List.length_cons, List.length_nil, Nat.zero_add, Nat.reduceAdd, BEq.rfl, if_true, io_274, jo_lt, jo_le, jo_gt, jo_ge, jo_eq, jo_ne, ent_1_1, ent_2_1, ent_2_2, ent_3_1, ent_3_2, ent_3_3, ent_4_1, ent_4_2, ent_4_3, ent_4_4, ent_5_1, ent_5_2, ent_5_3, ent_5_4, ent_5_5, ent_6_1, ent_6_2, ent_6_3, ent_6_4, ent_6_5, ent_6_6, ent_7_1, ent_7_2, ent_7_3, ent_7_4, ent_7_5, ent_7_6, ent_8_1, ent_8_2, ent_8_3, ent_8_4, ent_8_5, ent_8_6, ent_9_1, ent_9_2, ent_9_3, ent_9_4, ent_9_5, ent_9_6, if_false, decide_true, decide_false, Bool.false_eq_true, and_self, and_true, true_and, and_false, false_and, or_true, true_or, or_false, false_or, decide_eq_true_eq, not_true_eq_false, not_false_eq_true, jo_b_dec, Bool.not_true, Bool.not_false, gr_0_0, gr_0_1, gr_0_2, gr_0_3, gr_0_4, gr_0_5, gr_0_6, gr_0_7, gi_0_8, gi_0_9, pi_0_8, pi_0_9, io_0, gr_1_0, gi_1_1, gi_1_2, gi_1_3, gi_1_4, pi_1_1, pi_1_2, pi_1_3, pi_1_4, gr_1_5, gr_1_6, io_1, ld_2, st_2, gi_18_0, gi_18_1, gi_18_2, gr_18_3, gr_18_4, pi_18_0, pi_18_1, pi_18_2, io_18, ld_19, ld_20, st_19, st_20, gr_45_0, gi_45_1, gi_45_2, pi_45_1, pi_45_2, io_45, gr_240_0, gr_240_1, gr_240_2, gr_240_3, gi_240_4, pi_240_4, io_240, ld_241, st_241, ld_242, st_242, ld_243, st_243, ld_244, st_244, ld_246, st_246, ld_247, st_247, gr_245_0, gr_245_1, gi_245_2, pi_245_2, io_245, k1, h1, h2, hlt, k3]
  | inr p =>
    obtain ⟨hp, hc⟩ := hs
    obtain ⟨k1, hq, hc1⟩ := go p 0 _ hp hc
    have er : rd_en t n (.inr p) = if rd_sk t n p < n ∧ t (rd_sk t n p) = 59 then .inr (rd_sk t n p + 1) else .inl (1, rd_sk t n p) := rfl
    generalize hqe : rd_sk t n p = q at k1 hq hc1 er
    have h30 : jz_up f 1 2 (nI q) 1 3 = 0 := hc1.2.2.1
    have k3 := x_blame0 (f := jz_up f 1 2 (nI q)) (a := nI 1) (w := nI q) h30
    have hb1 := hc1.blame (k := 1) (w' := nI q)
    have e1 : (1 : Int32) = nI 1 := rfl
    have h1 := hc1.1
    have h2 := hc1.2.1
    by_cases hqn : q < n
    · have hlt : ¬ nI n ≤ nI q := fun h => by
        have := (nn_le (by omega) (by omega)).mp h
        omega
      have ha := at_ q hqn
      by_cases h59 : t q = 59
      · have hz : (nI (t q) = 59) = True := eq_true (cast (e59 q).symm h59)
        rw [er, if_pos ⟨hqn, h59⟩]
        refine ⟨jz_up (jz_up f 1 2 (nI q)) 1 2 (nI (q + 1)), run_V rfl ⟨rfl, Nat.le_of_ble_eq_true rfl⟩ ?_, ⟨hqn, XC.set2 hc1⟩, fun x hx => by rw [uq_far hx, uq_far hx]⟩
        unfold BX5_readEnd
        simp only [ev_seq, ev_if, ev_ret, ev_retv, ev_skip, ev_pop, ev_puti, ev_putz, ev_updf, ev_st, ev_stz, ev_upda, ev_scall, ev_int, ev_lng, ev_bin, ev_un, ev_div, ev_ldiv, ev_fi, ev_fr, ev_ld, ev_lr, ev_and, ev_or, ev_not, ev_of, ev_ite, ev_gnil, ev_gcons, ev_call, Option.bind_some, ev_loc0, ev_seti0, ev_setr0, ev_inc0, ev_loc1, ev_seti1, ev_setr1, ev_inc1, ev_loc2, ev_seti2, ev_setr2, ev_inc2, ev_loc3, ev_seti3, ev_setr3, ev_inc3, ev_loc4, ev_seti4, ev_setr4, ev_inc4, ev_loc5, ev_seti5, ev_setr5, ev_inc5, ev_loc6, ev_seti6, ev_setr6, ev_inc6, ev_loc7, ev_seti7, ev_setr7, ev_inc7, ev_loc8, ev_seti8, ev_setr8, ev_inc8, ev_lor0, ev_lor1, ev_lor2, ev_lor3, ev_isS, ok_same, List.length_cons, List.length_nil, Nat.zero_add, Nat.reduceAdd, BEq.rfl, if_true, io_274, jo_lt, jo_le, jo_gt, jo_ge, jo_eq, jo_ne, ent_1_1, ent_2_1, ent_2_2, ent_3_1, ent_3_2, ent_3_3, ent_4_1, ent_4_2, ent_4_3, ent_4_4, ent_5_1, ent_5_2, ent_5_3, ent_5_4, ent_5_5, ent_6_1, ent_6_2, ent_6_3, ent_6_4, ent_6_5, ent_6_6, ent_7_1, ent_7_2, ent_7_3, ent_7_4, ent_7_5, ent_7_6, ent_8_1, ent_8_2, ent_8_3, ent_8_4, ent_8_5, ent_8_6, ent_9_1, ent_9_2, ent_9_3, ent_9_4, ent_9_5, ent_9_6, if_false, decide_true, decide_false, Bool.false_eq_true, and_self, and_true, true_and, and_false, false_and, or_true, true_or, or_false, false_or, decide_eq_true_eq, not_true_eq_false, not_false_eq_true, jo_b_dec, Bool.not_true, Bool.not_false, gr_0_0, gr_0_1, gr_0_2, gr_0_3, gr_0_4, gr_0_5, gr_0_6, gr_0_7, gi_0_8, gi_0_9, pi_0_8, pi_0_9, io_0, gr_1_0, gi_1_1, gi_1_2, gi_1_3, gi_1_4, pi_1_1, pi_1_2, pi_1_3, pi_1_4, gr_1_5, gr_1_6, io_1, ld_2, st_2, gi_18_0, gi_18_1, gi_18_2, gr_18_3, gr_18_4, pi_18_0, pi_18_1, pi_18_2, io_18, ld_19, ld_20, st_19, st_20, gr_45_0, gi_45_1, gi_45_2, pi_45_1, pi_45_2, io_45, gr_240_0, gr_240_1, gr_240_2, gr_240_3, gi_240_4, pi_240_4, io_240, ld_241, st_241, ld_242, st_242, ld_243, st_243, ld_244, st_244, ld_246, st_246, ld_247, st_247, gr_245_0, gr_245_1, gi_245_2, pi_245_2, io_245, k1, h1, h2, hlt, nn_in (show q < 240 by omega) (by decide), nn_clamp (show q < 2147483648 by omega), ha, hz, nn_succ]
      · have hz : (nI (t q) = 59) = False := eq_false (fun h => h59 (cast (e59 q) h))
        rw [er, if_neg (fun h => h59 h.2)]
        refine ⟨jz_up (jz_up (jz_up f 1 2 (nI q)) 1 3 (nI 1)) 1 4 (nI q), run_V rfl ⟨rfl, Nat.le_of_ble_eq_true rfl⟩ ?_, ⟨Or.inl rfl, q, hq, hb1⟩, fun x hx => by rw [uq_far hx, uq_far hx, uq_far hx]⟩
        unfold BX5_readEnd
        simp only [ev_seq, ev_if, ev_ret, ev_retv, ev_skip, ev_pop, ev_puti, ev_putz, ev_updf, ev_st, ev_stz, ev_upda, ev_scall, ev_int, ev_lng, ev_bin, ev_un, ev_div, ev_ldiv, ev_fi, ev_fr, ev_ld, ev_lr, ev_and, ev_or, ev_not, ev_of, ev_ite, ev_gnil, ev_gcons, ev_call, Option.bind_some, ev_loc0, ev_seti0, ev_setr0, ev_inc0, ev_loc1, ev_seti1, ev_setr1, ev_inc1, ev_loc2, ev_seti2, ev_setr2, ev_inc2, ev_loc3, ev_seti3, ev_setr3, ev_inc3, ev_loc4, ev_seti4, ev_setr4, ev_inc4, ev_loc5, ev_seti5, ev_setr5, ev_inc5, ev_loc6, ev_seti6, ev_setr6, ev_inc6, ev_loc7, ev_seti7, ev_setr7, ev_inc7, ev_loc8, ev_seti8, ev_setr8, ev_inc8, ev_lor0, ev_lor1, ev_lor2, ev_lor3, ev_isS, ok_same, List.length_cons, List.length_nil, Nat.zero_add, Nat.reduceAdd, BEq.rfl, if_true, io_274, jo_lt, jo_le, jo_gt, jo_ge, jo_eq, jo_ne, ent_1_1, ent_2_1, ent_2_2, ent_3_1, ent_3_2, ent_3_3, ent_4_1, ent_4_2, ent_4_3, ent_4_4, ent_5_1, ent_5_2, ent_5_3, ent_5_4, ent_5_5, ent_6_1, ent_6_2, ent_6_3, ent_6_4, ent_6_5, ent_6_6, ent_7_1, ent_7_2, ent_7_3, ent_7_4, ent_7_5, ent_7_6, ent_8_1, ent_8_2, ent_8_3, ent_8_4, ent_8_5, ent_8_6, ent_9_1, ent_9_2, ent_9_3, ent_9_4, ent_9_5, ent_9_6, if_false, decide_true, decide_false, Bool.false_eq_true, and_self, and_true, true_and, and_false, false_and, or_true, true_or, or_false, false_or, decide_eq_true_eq, not_true_eq_false, not_false_eq_true, jo_b_dec, Bool.not_true, Bool.not_false, gr_0_0, gr_0_1, gr_0_2, gr_0_3, gr_0_4, gr_0_5, gr_0_6, gr_0_7, gi_0_8, gi_0_9, pi_0_8, pi_0_9, io_0, gr_1_0, gi_1_1, gi_1_2, gi_1_3, gi_1_4, pi_1_1, pi_1_2, pi_1_3, pi_1_4, gr_1_5, gr_1_6, io_1, ld_2, st_2, gi_18_0, gi_18_1, gi_18_2, gr_18_3, gr_18_4, pi_18_0, pi_18_1, pi_18_2, io_18, ld_19, ld_20, st_19, st_20, gr_45_0, gi_45_1, gi_45_2, pi_45_1, pi_45_2, io_45, gr_240_0, gr_240_1, gr_240_2, gr_240_3, gi_240_4, pi_240_4, io_240, ld_241, st_241, ld_242, st_242, ld_243, st_243, ld_244, st_244, ld_246, st_246, ld_247, st_247, gr_245_0, gr_245_1, gi_245_2, pi_245_2, io_245, k1, h1, h2, hlt, nn_in (show q < 240 by omega) (by decide), nn_clamp (show q < 2147483648 by omega), ha, hz, e1, k3]
    · have hlt : nI n ≤ nI q := (nn_le (by omega) (by omega)).mpr (by omega)
      rw [er, if_neg (fun h => hqn h.1)]
      refine ⟨jz_up (jz_up (jz_up f 1 2 (nI q)) 1 3 (nI 1)) 1 4 (nI q), run_V rfl ⟨rfl, Nat.le_of_ble_eq_true rfl⟩ ?_, ⟨Or.inl rfl, q, hq, hb1⟩, fun x hx => by rw [uq_far hx, uq_far hx, uq_far hx]⟩
      unfold BX5_readEnd
      simp only [ev_seq, ev_if, ev_ret, ev_retv, ev_skip, ev_pop, ev_puti, ev_putz, ev_updf, ev_st, ev_stz, ev_upda, ev_scall, ev_int, ev_lng, ev_bin, ev_un, ev_div, ev_ldiv, ev_fi, ev_fr, ev_ld, ev_lr, ev_and, ev_or, ev_not, ev_of, ev_ite, ev_gnil, ev_gcons, ev_call, Option.bind_some, ev_loc0, ev_seti0, ev_setr0, ev_inc0, ev_loc1, ev_seti1, ev_setr1, ev_inc1, ev_loc2, ev_seti2, ev_setr2, ev_inc2, ev_loc3, ev_seti3, ev_setr3, ev_inc3, ev_loc4, ev_seti4, ev_setr4, ev_inc4, ev_loc5, ev_seti5, ev_setr5, ev_inc5, ev_loc6, ev_seti6, ev_setr6, ev_inc6, ev_loc7, ev_seti7, ev_setr7, ev_inc7, ev_loc8, ev_seti8, ev_setr8, ev_inc8, ev_lor0, ev_lor1, ev_lor2, ev_lor3, ev_isS, ok_same, List.length_cons, List.length_nil, Nat.zero_add, Nat.reduceAdd, BEq.rfl, if_true, io_274, jo_lt, jo_le, jo_gt, jo_ge, jo_eq, jo_ne, ent_1_1, ent_2_1, ent_2_2, ent_3_1, ent_3_2, ent_3_3, ent_4_1, ent_4_2, ent_4_3, ent_4_4, ent_5_1, ent_5_2, ent_5_3, ent_5_4, ent_5_5, ent_6_1, ent_6_2, ent_6_3, ent_6_4, ent_6_5, ent_6_6, ent_7_1, ent_7_2, ent_7_3, ent_7_4, ent_7_5, ent_7_6, ent_8_1, ent_8_2, ent_8_3, ent_8_4, ent_8_5, ent_8_6, ent_9_1, ent_9_2, ent_9_3, ent_9_4, ent_9_5, ent_9_6, if_false, decide_true, decide_false, Bool.false_eq_true, and_self, and_true, true_and, and_false, false_and, or_true, true_or, or_false, false_or, decide_eq_true_eq, not_true_eq_false, not_false_eq_true, jo_b_dec, Bool.not_true, Bool.not_false, gr_0_0, gr_0_1, gr_0_2, gr_0_3, gr_0_4, gr_0_5, gr_0_6, gr_0_7, gi_0_8, gi_0_9, pi_0_8, pi_0_9, io_0, gr_1_0, gi_1_1, gi_1_2, gi_1_3, gi_1_4, pi_1_1, pi_1_2, pi_1_3, pi_1_4, gr_1_5, gr_1_6, io_1, ld_2, st_2, gi_18_0, gi_18_1, gi_18_2, gr_18_3, gr_18_4, pi_18_0, pi_18_1, pi_18_2, io_18, ld_19, ld_20, st_19, st_20, gr_45_0, gi_45_1, gi_45_2, pi_45_1, pi_45_2, io_45, gr_240_0, gr_240_1, gr_240_2, gr_240_3, gi_240_4, pi_240_4, io_240, ld_241, st_241, ld_242, st_242, ld_243, st_243, ld_244, st_244, ld_246, st_246, ld_247, st_247, gr_245_0, gr_245_1, gi_245_2, pi_245_2, io_245, k1, h1, h2, hlt, e1, k3]
/-- 'l' -/
def rd_cl (t : Nat → Nat) (n : Nat) (A : rd_A) (s : rd_R) : rd_A × rd_R :=
  let x := rd_nx t n s 2 7
  let y := rd_nx t n x.2 0 (2 ^ x.1 - 1)
  ((x.1, ra_nc A, ra_np A, upd (ra_V A) 51 (nI y.1), ra_K A, ra_W A), y.2)
theorem x_inns {A : rd_A} (hT : XT f t n) {s : rd_R} (hs : XCs f n s) (hA : XA f A) (h0 : ra_nc A = 0) (h1 : ra_np A = 0) : ∃ f', MX5_readInns [.ref 1] (SG, f) = some ((), (SG, f')) ∧ XCs f' n (rd_cl t n A s).2 ∧ XA f' (rd_cl t n A s).1 ∧ (∀ x, ¬ (x = 1 ∨ x = 3 ∨ x = 6) → f' x = f x) ∧ f' 6 1 = f 6 1 := by
  obtain ⟨f1, a1, a2, a3⟩ := x_num hT hs (a := 2) (b := 7) (lo := 2) (hi := 7) rfl rfl (by decide) (by decide)
  have hv1 : (rd_nx t n s 2 7).1 ≤ 7 := nx_val
  have hT1 : XT f1 t n := hT.keep (a3 2 (by decide))
  have hpw : 2 ^ (rd_nx t n s 2 7).1 ≤ 128 := Nat.le_trans (Nat.pow_le_pow_right (by decide) hv1) (by decide)
  have hpp : 0 < 2 ^ (rd_nx t n s 2 7).1 := Nat.pow_pos (by decide)
  have e1 : jo_shl 1 (nI (rd_nx t n s 2 7).1) - 1 = nI (2 ^ (rd_nx t n s 2 7).1 - 1) := by
    rw [shl_pow hv1]; exact nn_sub (b := 1) (by omega)
  obtain ⟨f2, b1, b2, b3⟩ := x_num hT1 a2 (a := 0) (b := nI (2 ^ (rd_nx t n s 2 7).1 - 1)) (lo := 0) (hi := 2 ^ (rd_nx t n s 2 7).1 - 1) rfl rfl (by decide) (by omega)
  refine ⟨jz_up (jz_up f2 6 2 (nI (rd_nx t n (rd_nx t n s 2 7).2 0 (2 ^ (rd_nx t n s 2 7).1 - 1)).1)) 3 0 (nI (rd_nx t n s 2 7).1), run_V rfl ⟨rfl, Nat.le_of_ble_eq_true rfl⟩ ?_, (b2.up (by decide) _).up (by decide) _, ?_, ?_, ?_⟩
  · unfold BX5_readInns
    simp only [ev_seq, ev_if, ev_ret, ev_retv, ev_skip, ev_pop, ev_puti, ev_putz, ev_updf, ev_st, ev_stz, ev_upda, ev_scall, ev_int, ev_lng, ev_bin, ev_un, ev_div, ev_ldiv, ev_fi, ev_fr, ev_ld, ev_lr, ev_and, ev_or, ev_not, ev_of, ev_ite, ev_gnil, ev_gcons, ev_call, Option.bind_some, ev_loc0, ev_seti0, ev_setr0, ev_inc0, ev_loc1, ev_seti1, ev_setr1, ev_inc1, ev_loc2, ev_seti2, ev_setr2, ev_inc2, ev_loc3, ev_seti3, ev_setr3, ev_inc3, ev_loc4, ev_seti4, ev_setr4, ev_inc4, ev_loc5, ev_seti5, ev_setr5, ev_inc5, ev_loc6, ev_seti6, ev_setr6, ev_inc6, ev_loc7, ev_seti7, ev_setr7, ev_inc7, ev_loc8, ev_seti8, ev_setr8, ev_inc8, ev_lor0, ev_lor1, ev_lor2, ev_lor3, ev_isS, ok_same, List.length_cons, List.length_nil, Nat.zero_add, Nat.reduceAdd, BEq.rfl, if_true, io_274, jo_lt, jo_le, jo_gt, jo_ge, jo_eq, jo_ne, ent_1_1, ent_2_1, ent_2_2, ent_3_1, ent_3_2, ent_3_3, ent_4_1, ent_4_2, ent_4_3, ent_4_4, ent_5_1, ent_5_2, ent_5_3, ent_5_4, ent_5_5, ent_6_1, ent_6_2, ent_6_3, ent_6_4, ent_6_5, ent_6_6, ent_7_1, ent_7_2, ent_7_3, ent_7_4, ent_7_5, ent_7_6, ent_8_1, ent_8_2, ent_8_3, ent_8_4, ent_8_5, ent_8_6, ent_9_1, ent_9_2, ent_9_3, ent_9_4, ent_9_5, ent_9_6, if_false, decide_true, decide_false, Bool.false_eq_true, and_self, and_true, true_and, and_false, false_and, or_true, true_or, or_false, false_or, decide_eq_true_eq, not_true_eq_false, not_false_eq_true, jo_b_dec, Bool.not_true, Bool.not_false, gr_0_0, gr_0_1, gr_0_2, gr_0_3, gr_0_4, gr_0_5, gr_0_6, gr_0_7, gi_0_8, gi_0_9, pi_0_8, pi_0_9, io_0, gr_1_0, gi_1_1, gi_1_2, gi_1_3, gi_1_4, pi_1_1, pi_1_2, pi_1_3, pi_1_4, gr_1_5, gr_1_6, io_1, ld_2, st_2, gi_18_0, gi_18_1, gi_18_2, gr_18_3, gr_18_4, pi_18_0, pi_18_1, pi_18_2, io_18, ld_19, ld_20, st_19, st_20, gr_45_0, gi_45_1, gi_45_2, pi_45_1, pi_45_2, io_45, gr_240_0, gr_240_1, gr_240_2, gr_240_3, gi_240_4, pi_240_4, io_240, ld_241, st_241, ld_242, st_242, ld_243, st_243, ld_244, st_244, ld_246, st_246, ld_247, st_247, gr_245_0, gr_245_1, gi_245_2, pi_245_2, io_245, gr_6_0, gr_6_3, gr_6_4, gr_6_5, gr_6_6, gr_6_7, gr_6_8, gr_6_9, gr_6_10, gr_6_11, gr_6_12, gi_6_1, pi_6_1, gi_6_2, pi_6_2, io_6, ld_4, st_4, ld_5, st_5, ld_7, st_7, ld_8, st_8, ld_9, st_9, ld_10, st_10, ld_11, st_11, ld_12, st_12, ld_13, st_13, ld_14, st_14, ld_15, st_15, gi_3_0, gi_3_1, gi_3_2, pi_3_0, pi_3_1, pi_3_2, gr_3_3, gr_3_4, io_3, a1, e1, b1]
  · obtain ⟨q1, q2, q3, q4, q5, q6⟩ := hA
    have e6 : ∀ x, x ≠ 1 → f2 x = f x := fun x hx => by rw [b3 x hx, a3 x hx]
    refine ⟨uq_at, ?_, ?_, ?_, ?_, ?_⟩
    · rw [uq_ne (by decide), uq_far (by decide), e6 3 (by decide)]; exact q2
    · rw [uq_ne (by decide), uq_far (by decide), e6 3 (by decide)]; exact q3
    · intro p hp
      have : p < ra_np A := hp
      omega
    · intro p hp
      have : p < ra_np A := hp
      omega
    · refine XD.keep (f := jz_up f2 6 2 (nI (rd_nx t n (rd_nx t n s 2 7).2 0 (2 ^ (rd_nx t n s 2 7).1 - 1)).1)) (fun j hj => uq_far (by omega)) ?_
      have q7 : XD f2 6 (ra_nc A) (ra_np A) (ra_V A) := XD.keep (fun j hj => e6 _ (by omega)) q6
      exact XD.put51 (by omega) (by omega) q7 _
  · intro x hx
    rw [uq_far (by omega), uq_far (by omega), b3 x (by omega), a3 x (by omega)]
  · rw [uq_far (by decide), uq_ne (by decide), b3 6 (by decide), a3 6 (by decide)]
/-- 'c' -/
def rd_cc (t : Nat → Nat) (n : Nat) (A : rd_A) (s : rd_R) : rd_A × rd_R :=
  let x := rd_nx t n s 0 (ra_ni A - 1)
  let y := rd_nx t n x.2 0 1
  let z := rd_nx t n y.2 0 30
  ((ra_ni A, ra_nc A + 1, ra_np A, upd (upd (upd (upd (ra_V A) (ra_nc A) (nI x.1)) (4 + ra_nc A) (nI y.1)) (8 + ra_nc A) (nI z.1)) (12 + ra_nc A) (-1), ra_K A, ra_W A), z.2)
theorem x_coach {A : rd_A} (hT : XT f t n) {s : rd_R} (hs : XCs f n s) (hA : XA f A) (hni : 2 ≤ ra_ni A ∧ ra_ni A ≤ 7) (h0 : ra_nc A < 4) (h1 : ra_np A ≤ 7) : ∃ f', MX5_readCoach [.ref 1, .int (nI (ra_nc A))] (SG, f) = some ((), (SG, f')) ∧ XCs f' n (rd_cc t n A s).2 ∧ XA f' (rd_cc t n A s).1 ∧ (∀ x, ¬ (x = 1 ∨ x = 3 ∨ (7 ≤ x ∧ x ≤ 10)) → f' x = f x) := by
  obtain ⟨q1, q2, q3, q4, q5, q6⟩ := hA
  obtain ⟨c, hc⟩ : ∃ c, c = ra_nc A := ⟨_, rfl⟩
  have em : f 3 0 - 1 = nI (ra_ni A - 1) := by rw [q1]; exact nn_sub (b := 1) (by omega)
  obtain ⟨f1, a1, a2, a3⟩ := x_num hT hs (a := 0) (b := nI (ra_ni A - 1)) (lo := 0) (hi := ra_ni A - 1) rfl rfl (by decide) (by omega)
  obtain ⟨v1, hv1⟩ : ∃ v, v = nI (rd_nx t n s 0 (ra_ni A - 1)).1 := ⟨_, rfl⟩
  rw [← hv1] at a1
  have hT1 : XT (jz_up f1 7 c v1) t n := (hT.keep (a3 2 (by decide))).up (by decide) _
  obtain ⟨f2, b1, b2, b3⟩ := x_num hT1 (a2.up (by decide) v1) (a := 0) (b := 1) (lo := 0) (hi := 1) rfl rfl (by decide) (by decide)
  obtain ⟨v2, hv2⟩ : ∃ v, v = nI (rd_nx t n (rd_nx t n s 0 (ra_ni A - 1)).2 0 1).1 := ⟨_, rfl⟩
  rw [← hv2] at b1
  have hT2 : XT (jz_up f2 8 c v2) t n := (hT1.keep (b3 2 (by decide))).up (by decide) _
  obtain ⟨f3, c1, c2, c3⟩ := x_num hT2 (b2.up (by decide) v2) (a := 0) (b := 30) (lo := 0) (hi := 30) rfl rfl (by decide) (by decide)
  obtain ⟨v3, hv3⟩ : ∃ v, v = nI (rd_nx t n (rd_nx t n (rd_nx t n s 0 (ra_ni A - 1)).2 0 1).2 0 30).1 := ⟨_, rfl⟩
  rw [← hv3] at c1
  have E : Eq1 (jz_up (jz_up f3 9 c v3) 10 c (-1)) (jz_up (jz_up (jz_up (jz_up f 7 c v1) 8 c v2) 9 c v3) 10 c (-1)) := ((((Eq1.up (g := f) a3 (by decide) v1).then b3).up (by decide) v2).then c3).up (by decide) v3 |>.up (by decide) (-1)
  generalize hg : jz_up (jz_up (jz_up (jz_up f 7 c v1) 8 c v2) 9 c v3) 10 c (-1) = g at E
  refine ⟨jz_up (jz_up (jz_up f3 9 c v3) 10 c (-1)) 3 1 (nI (c + 1)), run_V rfl ⟨rfl, Nat.le_of_ble_eq_true rfl⟩ ?_, ((c2.up (by decide) _).up (by decide) _).up (by decide) _, ?_, ?_⟩
  · have n4 : ¬ (4 : Int32) ≤ nI c := fun h => by
      have := (nn_le (m := 4) (by decide) (by omega)).mp h
      omega
    rw [← hc]
    unfold BX5_readCoach
    simp only [ev_seq, ev_if, ev_ret, ev_retv, ev_skip, ev_pop, ev_puti, ev_putz, ev_updf, ev_st, ev_stz, ev_upda, ev_scall, ev_int, ev_lng, ev_bin, ev_un, ev_div, ev_ldiv, ev_fi, ev_fr, ev_ld, ev_lr, ev_and, ev_or, ev_not, ev_of, ev_ite, ev_gnil, ev_gcons, ev_call, Option.bind_some, ev_loc0, ev_seti0, ev_setr0, ev_inc0, ev_loc1, ev_seti1, ev_setr1, ev_inc1, ev_loc2, ev_seti2, ev_setr2, ev_inc2, ev_loc3, ev_seti3, ev_setr3, ev_inc3, ev_loc4, ev_seti4, ev_setr4, ev_inc4, ev_loc5, ev_seti5, ev_setr5, ev_inc5, ev_loc6, ev_seti6, ev_setr6, ev_inc6, ev_loc7, ev_seti7, ev_setr7, ev_inc7, ev_loc8, ev_seti8, ev_setr8, ev_inc8, ev_lor0, ev_lor1, ev_lor2, ev_lor3, ev_isS, ok_same, List.length_cons, List.length_nil, Nat.zero_add, Nat.reduceAdd, BEq.rfl, if_true, io_274, jo_lt, jo_le, jo_gt, jo_ge, jo_eq, jo_ne, ent_1_1, ent_2_1, ent_2_2, ent_3_1, ent_3_2, ent_3_3, ent_4_1, ent_4_2, ent_4_3, ent_4_4, ent_5_1, ent_5_2, ent_5_3, ent_5_4, ent_5_5, ent_6_1, ent_6_2, ent_6_3, ent_6_4, ent_6_5, ent_6_6, ent_7_1, ent_7_2, ent_7_3, ent_7_4, ent_7_5, ent_7_6, ent_8_1, ent_8_2, ent_8_3, ent_8_4, ent_8_5, ent_8_6, ent_9_1, ent_9_2, ent_9_3, ent_9_4, ent_9_5, ent_9_6, if_false, decide_true, decide_false, Bool.false_eq_true, and_self, and_true, true_and, and_false, false_and, or_true, true_or, or_false, false_or, decide_eq_true_eq, not_true_eq_false, not_false_eq_true, jo_b_dec, Bool.not_true, Bool.not_false, gr_0_0, gr_0_1, gr_0_2, gr_0_3, gr_0_4, gr_0_5, gr_0_6, gr_0_7, gi_0_8, gi_0_9, pi_0_8, pi_0_9, io_0, gr_1_0, gi_1_1, gi_1_2, gi_1_3, gi_1_4, pi_1_1, pi_1_2, pi_1_3, pi_1_4, gr_1_5, gr_1_6, io_1, ld_2, st_2, gi_18_0, gi_18_1, gi_18_2, gr_18_3, gr_18_4, pi_18_0, pi_18_1, pi_18_2, io_18, ld_19, ld_20, st_19, st_20, gr_45_0, gi_45_1, gi_45_2, pi_45_1, pi_45_2, io_45, gr_240_0, gr_240_1, gr_240_2, gr_240_3, gi_240_4, pi_240_4, io_240, ld_241, st_241, ld_242, st_242, ld_243, st_243, ld_244, st_244, ld_246, st_246, ld_247, st_247, gr_245_0, gr_245_1, gi_245_2, pi_245_2, io_245, gr_6_0, gr_6_3, gr_6_4, gr_6_5, gr_6_6, gr_6_7, gr_6_8, gr_6_9, gr_6_10, gr_6_11, gr_6_12, gi_6_1, pi_6_1, gi_6_2, pi_6_2, io_6, ld_4, st_4, ld_5, st_5, ld_7, st_7, ld_8, st_8, ld_9, st_9, ld_10, st_10, ld_11, st_11, ld_12, st_12, ld_13, st_13, ld_14, st_14, ld_15, st_15, gi_3_0, gi_3_1, gi_3_2, pi_3_0, pi_3_1, pi_3_2, gr_3_3, gr_3_4, io_3, n4, em, a1, nn_in (show c < 4 by omega) (by decide), nn_clamp (show c < 2147483648 by omega), b1, c1, nn_succ]
  · have e3 : ∀ x, x ≠ 1 → x ≠ 3 → jz_up (jz_up (jz_up f3 9 c v3) 10 c (-1)) 3 1 (nI (c + 1)) x = g x := fun x h1 h3 => by rw [uq_far h3, E x h1]
    have e33 : jz_up (jz_up f3 9 c v3) 10 c (-1) 3 = f 3 := by rw [E 3 (by decide), ← hg, uq_far (by decide), uq_far (by decide), uq_far (by decide), uq_far (by decide)]
    have e4 : g 4 = f 4 := by rw [← hg, uq_far (by decide), uq_far (by decide), uq_far (by decide), uq_far (by decide)]
    have e5 : g 5 = f 5 := by rw [← hg, uq_far (by decide), uq_far (by decide), uq_far (by decide), uq_far (by decide)]
    refine ⟨?_, ?_, ?_, ?_, ?_, ?_⟩
    · rw [uq_ne (by decide), e33]; exact q1
    · rw [uq_at, hc]; rfl
    · rw [uq_ne (by decide), e33]; exact q3
    · rw [e3 4 (by decide) (by decide), e4]; exact q4
    · rw [e3 5 (by decide) (by decide), e5]; exact q5
    · refine XD.keep (f := g) (fun j hj => e3 _ (by omega) (by omega)) ?_
      show XD g 6 (ra_nc A + 1) (ra_np A) (upd (upd (upd (upd (ra_V A) (ra_nc A) (nI (rd_nx t n s 0 (ra_ni A - 1)).1)) (4 + ra_nc A) (nI (rd_nx t n (rd_nx t n s 0 (ra_ni A - 1)).2 0 1).1)) (8 + ra_nc A) (nI (rd_nx t n (rd_nx t n (rd_nx t n s 0 (ra_ni A - 1)).2 0 1).2 0 30).1)) (12 + ra_nc A) (-1))
      rw [← hv1, ← hv2, ← hv3, ← hc, ← hg]
      have p1 := XD.put (r := 1) (p := c) (k := c) (Or.inl ⟨rfl, rfl, by omega⟩) (by omega) h1 q6 v1
      have p2 := XD.put (r := 2) (p := c) (k := 4 + c) (Or.inr (Or.inl ⟨rfl, rfl, by omega⟩)) (by omega) h1 p1 v2
      have p3 := XD.put (r := 3) (p := c) (k := 8 + c) (Or.inr (Or.inr (Or.inl ⟨rfl, rfl, by omega⟩))) (by omega) h1 p2 v3
      have p4 := XD.put (r := 4) (p := c) (k := 12 + c) (Or.inr (Or.inr (Or.inr (Or.inl ⟨rfl, rfl, by omega⟩)))) (by omega) h1 p3 (-1)
      rw [← hc] at p4
      refine XD.extc p4 ?_ ?_ ?_ ?_
      · rw [uq_far (by decide), uq_far (by decide), uq_far (by decide), uq_at, ud_ne (by omega), ud_ne (by omega), ud_ne (by omega), ud_at]
      · rw [uq_far (by decide), uq_far (by decide), uq_at, ud_ne (by omega), ud_ne (by omega), ud_at]
      · rw [uq_far (by decide), uq_at, ud_ne (by omega), ud_at]
      · rw [uq_at, ud_at]
  · intro x hx
    rw [uq_far (by omega), E x (by omega), ← hg, uq_far (by omega), uq_far (by omega), uq_far (by omega), uq_far (by omega)]
end
