/-! one horn: what becomes of the day -/
theorem for_inv {c : jz_X Bool} {s : jz_S} {L0 : jz_L} {h0 : jz_H} (Inv : Nat → jz_L → jz_H → Prop) (n : Nat) {fuel : Nat} (h00 : Inv 0 L0 h0) (hf : n < fuel) (hs : ∀ i L h, i < n → Inv i L h → c L h = some (true, h) ∧ ∃ L' h', s L h = some (.inl (L', h')) ∧ Inv (i + 1) L' h') (he : ∀ L h, Inv n L h → c L h = some (false, h)) : ∃ L' h', js_while c s fuel L0 h0 = some (.inl (L', h')) ∧ Inv n L' h' := by
  have key : ∀ k i fuel L h, i + k = n → k < fuel → Inv i L h → ∃ L' h', js_while c s fuel L h = some (.inl (L', h')) ∧ Inv n L' h' := by
    intro k
    induction k with
    | zero =>
      intro i fuel L h hi hfu hI
      cases fuel with
      | zero => omega
      | succ fuel =>
        have : i = n := by omega
        subst this
        exact ⟨L, h, by simp only [js_while, he L h hI, Option.bind_some, Bool.false_eq_true, if_false], hI⟩
    | succ k ih =>
      intro i fuel L h hi hfu hI
      cases fuel with
      | zero => omega
      | succ fuel =>
        obtain ⟨h1, L', h', h2, h3⟩ := hs i L h (by omega) hI
        obtain ⟨L2, h2', h4, h5⟩ := ih (i + 1) fuel L' h' (by omega) (by omega) h3
        exact ⟨L2, h2', by simp only [js_while, h1, Option.bind_some, if_true, h2]; exact h4, h5⟩
  exact key n 0 fuel L0 h0 (by omega) hf h00
section
variable (ni nc np : Nat) (K W V : Nat → Int32) (c : Nat)
/-- who gets in -/
def sp_gets (p : Nat) : Bool := decide (sp_called V c p) && !(sp_lb nc K V c p)
def sp_at1 (p : Nat) : Int32 := if sp_gets nc K V c p = true then -1 else V (16 + p)
def sp_in1 (p : Nat) : Int32 := if sp_gets nc K V c p = true then nI c else V (23 + p)
def sp_bk1 (p : Nat) : Int32 := if sp_lb nc K V c p = true then -1 else V (37 + p)
/-- the new owner -/
def sp_ow1 : Int32 := sp_bi (sp_best nc K V (sp_lb nc K V c) np) (V (12 + c))
def sp_up1 : Int32 := if V (4 + c) = 1 then (if V c = nI (ni - 1) then 0 else 1) else (if V c = 0 then 1 else 0)
def sp_inn1 : Int32 := V c + (if sp_up1 ni V c = 1 then 1 else -1)
def sp_out (p : Nat) : Bool := decide (sp_in1 nc K V c p = nI c ∧ W p = sp_inn1 ni V c)
def sp_at2 (p : Nat) : Int32 := if sp_out ni nc K W V c p = true then sp_inn1 ni V c else sp_at1 nc K V c p
def sp_in2 (p : Nat) : Int32 := if sp_out ni nc K W V c p = true then -1 else sp_in1 nc K V c p
def sp_bk2 (p : Nat) : Int32 := if sp_out ni nc K W V c p = true then -1 else sp_bk1 nc K V c p
/-- the pence, behind the first i have paid -/
def sp_pay : Nat → Nat → Int32
  | 0 => fun q => V (44 + q)
  | p + 1 => if ¬ sp_ow1 nc np K V c = -1 ∧ sp_in1 nc K V c p = nI c ∧ ¬ nI p = sp_ow1 nc np K V c then upd (upd (sp_pay p) p (sp_pay p p - 1)) (sp_ow1 nc np K V c).toNatClampNeg (upd (sp_pay p) p (sp_pay p p - 1) (sp_ow1 nc np K V c).toNatClampNeg + 1) else sp_pay p
/-- the day behind the horn, but for the book -/
def sp_blow : Nat → Int32 := fun i => if i = c then sp_inn1 ni V c else if i = 4 + c then sp_up1 ni V c else if i = 12 + c then sp_ow1 nc np K V c else if i < 16 then V i else if i < 23 then sp_at2 ni nc K W V c (i - 16) else if i < 30 then sp_in2 ni nc K W V c (i - 23) else if i < 37 then V i else if i < 44 then sp_bk2 ni nc K W V c (i - 37) else if i < 51 then sp_pay nc np K V c np (i - 44) else if i = 52 then V 52 + 1 else V i
end
section
variable {ni nc np : Nat} {K W V : Nat → Int32} {c : Nat}
theorem bl_inn (hc : c < 4) {x : Nat} (hx : x < 4) : sp_blow ni nc np K W V c x = if x = c then sp_inn1 ni V c else V x := by
  unfold sp_blow
  by_cases h : x = c
  · rw [if_pos h, if_pos h]
  · rw [if_neg h, if_neg h, if_neg (by omega), if_neg (by omega), if_pos (by omega)]
theorem bl_up (hc : c < 4) {x : Nat} (hx : x < 4) : sp_blow ni nc np K W V c (4 + x) = if x = c then sp_up1 ni V c else V (4 + x) := by
  unfold sp_blow
  by_cases h : x = c
  · rw [if_neg (by omega), if_pos (by omega), if_pos h]
  · rw [if_neg (by omega), if_neg (by omega), if_neg (by omega), if_pos (by omega), if_neg h]
theorem bl_wait (hc : c < 4) {x : Nat} (hx : x < 4) : sp_blow ni nc np K W V c (8 + x) = V (8 + x) := by
  unfold sp_blow
  rw [if_neg (by omega), if_neg (by omega), if_neg (by omega), if_pos (by omega)]
theorem bl_own (hc : c < 4) {x : Nat} (hx : x < 4) : sp_blow ni nc np K W V c (12 + x) = if x = c then sp_ow1 nc np K V c else V (12 + x) := by
  unfold sp_blow
  by_cases h : x = c
  · rw [if_neg (by omega), if_neg (by omega), if_pos (by omega), if_pos h]
  · rw [if_neg (by omega), if_neg (by omega), if_neg (by omega), if_pos (by omega), if_neg h]
theorem bl_at (hc : c < 4) {p : Nat} (hp : p < 7) : sp_blow ni nc np K W V c (16 + p) = sp_at2 ni nc K W V c p := by
  unfold sp_blow
  rw [if_neg (by omega), if_neg (by omega), if_neg (by omega), if_neg (by omega), if_pos (by omega), show 16 + p - 16 = p by omega]
theorem bl_in (hc : c < 4) {p : Nat} (hp : p < 7) : sp_blow ni nc np K W V c (23 + p) = sp_in2 ni nc K W V c p := by
  unfold sp_blow
  rw [if_neg (by omega), if_neg (by omega), if_neg (by omega), if_neg (by omega), if_neg (by omega), if_pos (by omega), show 23 + p - 23 = p by omega]
theorem bl_slow (hc : c < 4) {p : Nat} (hp : p < 7) : sp_blow ni nc np K W V c (30 + p) = V (30 + p) := by
  unfold sp_blow
  rw [if_neg (by omega), if_neg (by omega), if_neg (by omega), if_neg (by omega), if_neg (by omega), if_neg (by omega), if_pos (by omega)]
theorem bl_bk (hc : c < 4) {p : Nat} (hp : p < 7) : sp_blow ni nc np K W V c (37 + p) = sp_bk2 ni nc K W V c p := by
  unfold sp_blow
  rw [if_neg (by omega), if_neg (by omega), if_neg (by omega), if_neg (by omega), if_neg (by omega), if_neg (by omega), if_neg (by omega), if_pos (by omega), show 37 + p - 37 = p by omega]
theorem bl_pn (hc : c < 4) {p : Nat} (hp : p < 7) : sp_blow ni nc np K W V c (44 + p) = sp_pay nc np K V c np p := by
  unfold sp_blow
  rw [if_neg (by omega), if_neg (by omega), if_neg (by omega), if_neg (by omega), if_neg (by omega), if_neg (by omega), if_neg (by omega), if_neg (by omega), if_pos (by omega), show 44 + p - 44 = p by omega]
theorem bl_lit (hc : c < 4) : sp_blow ni nc np K W V c 51 = V 51 := by
  unfold sp_blow
  rw [if_neg (by omega), if_neg (by omega), if_neg (by omega), if_neg (by omega), if_neg (by omega), if_neg (by omega), if_neg (by omega), if_neg (by omega), if_neg (by omega), if_neg (by omega)]
theorem bl_hn (hc : c < 4) : sp_blow ni nc np K W V c 52 = V 52 + 1 := by
  unfold sp_blow
  rw [if_neg (by omega), if_neg (by omega), if_neg (by omega), if_neg (by omega), if_neg (by omega), if_neg (by omega), if_neg (by omega), if_neg (by omega), if_neg (by omega), if_pos rfl]
end
/-- called, by what stands at one and at the coach alone -/
theorem x_called2 {d : Nat} (hd : DayAt d 18) {f : Nat → Nat → Int32} {ni nc np hb : Nat} {V : Nat → Int32} (hnc : nc ≤ 4) (hnp : np ≤ 7) (hni : ni ≤ 7) (hk : DayOK ni nc np hb V) {c p : Nat} (hc : c < nc) (hp : p < np) (hx5 : f (d + 5) p = V (16 + p)) (hx6 : f (d + 6) p = V (23 + p)) (hx8 : f (d + 8) p = V (37 + p)) (hy : f (d + 1) c = V c) : MX0_isCalledBy [.ref d, .int (nI c), .int (nI p)] (SG, f) = some (jo_b (decide (sp_called V c p)), (SG, f)) := by
  refine run_Z rfl ⟨rfl, Nat.le_of_ble_eq_true rfl⟩ ?_
  unfold BX0_isCalledBy
  by_cases h1 : V (16 + p) = V c
  · obtain ⟨h2, -⟩ := called_at hk hni hc hp h1
    by_cases h3 : V (37 + p) = nI c <;> simp only [ev_seq, ev_if, ev_ret, ev_retv, ev_skip, ev_pop, ev_puti, ev_putz, ev_updf, ev_st, ev_stz, ev_upda, ev_scall, ev_int, ev_lng, ev_bin, ev_un, ev_div, ev_ldiv, ev_fi, ev_fr, ev_ld, ev_lr, ev_and, ev_or, ev_not, ev_of, ev_ite, ev_gnil, ev_gcons, ev_call, Option.bind_some, ev_loc0, ev_seti0, ev_setr0, ev_inc0, ev_loc1, ev_seti1, ev_setr1, ev_inc1, ev_loc2, ev_seti2, ev_setr2, ev_inc2, ev_loc3, ev_seti3, ev_setr3, ev_inc3, ev_loc4, ev_seti4, ev_setr4, ev_inc4, ev_loc5, ev_seti5, ev_setr5, ev_inc5, ev_loc6, ev_seti6, ev_setr6, ev_inc6, ev_loc7, ev_seti7, ev_setr7, ev_inc7, ev_loc8, ev_seti8, ev_setr8, ev_inc8, ev_lor0, ev_lor1, ev_lor2, ev_lor3, ev_isS, ok_same, List.length_cons, List.length_nil, Nat.zero_add, Nat.reduceAdd, BEq.rfl, if_true, io_274, jo_lt, jo_le, jo_gt, jo_ge, jo_eq, jo_ne, ent_1_1, ent_2_1, ent_2_2, ent_3_1, ent_3_2, ent_3_3, ent_4_1, ent_4_2, ent_4_3, ent_4_4, ent_5_1, ent_5_2, ent_5_3, ent_5_4, ent_5_5, ent_6_1, ent_6_2, ent_6_3, ent_6_4, ent_6_5, ent_6_6, ent_7_1, ent_7_2, ent_7_3, ent_7_4, ent_7_5, ent_7_6, ent_8_1, ent_8_2, ent_8_3, ent_8_4, ent_8_5, ent_8_6, ent_9_1, ent_9_2, ent_9_3, ent_9_4, ent_9_5, ent_9_6, if_false, decide_true, decide_false, Bool.false_eq_true, and_self, and_true, true_and, and_false, false_and, or_true, true_or, or_false, false_or, decide_eq_true_eq, not_true_eq_false, not_false_eq_true, jo_b_dec, Bool.not_true, Bool.not_false, dgr_0 hd, dgr_3 hd, dgr_4 hd, dgr_5 hd, dgr_6 hd, dgr_7 hd, dgr_8 hd, dgr_9 hd, dgr_10 hd, dgr_11 hd, dgr_12 hd, dgi_1 hd, dgi_2 hd, dpi_1 hd, dpi_2 hd, dld_1 hd, dst_1 hd, dld_2 hd, dst_2 hd, dld_3 hd, dst_3 hd, dld_4 hd, dst_4 hd, dld_5 hd, dst_5 hd, dld_6 hd, dst_6 hd, dld_7 hd, dst_7 hd, dld_8 hd, dst_8 hd, dld_9 hd, dst_9 hd, dld_11 hd, dst_11 hd, dbr_0 hd, dbi_1 hd, dbi_2 hd, dbp_1 hd, dbp_2 hd, dbo hd, dio hd, gi_18_0, gi_18_1, gi_18_2, gr_18_3, gr_18_4, ld_19, ld_20, nn_in (show p < 7 by omega) (by decide), nn_clamp (show p < 2147483648 by omega), nn_in (show c < 4 by omega) (by decide), nn_clamp (show c < 2147483648 by omega), hx5, hx6, hx8, hy, h1, h2, h3, sp_called]
  · by_cases h2 : V (23 + p) = -1
    · by_cases h3 : V (37 + p) = nI c <;> simp only [ev_seq, ev_if, ev_ret, ev_retv, ev_skip, ev_pop, ev_puti, ev_putz, ev_updf, ev_st, ev_stz, ev_upda, ev_scall, ev_int, ev_lng, ev_bin, ev_un, ev_div, ev_ldiv, ev_fi, ev_fr, ev_ld, ev_lr, ev_and, ev_or, ev_not, ev_of, ev_ite, ev_gnil, ev_gcons, ev_call, Option.bind_some, ev_loc0, ev_seti0, ev_setr0, ev_inc0, ev_loc1, ev_seti1, ev_setr1, ev_inc1, ev_loc2, ev_seti2, ev_setr2, ev_inc2, ev_loc3, ev_seti3, ev_setr3, ev_inc3, ev_loc4, ev_seti4, ev_setr4, ev_inc4, ev_loc5, ev_seti5, ev_setr5, ev_inc5, ev_loc6, ev_seti6, ev_setr6, ev_inc6, ev_loc7, ev_seti7, ev_setr7, ev_inc7, ev_loc8, ev_seti8, ev_setr8, ev_inc8, ev_lor0, ev_lor1, ev_lor2, ev_lor3, ev_isS, ok_same, List.length_cons, List.length_nil, Nat.zero_add, Nat.reduceAdd, BEq.rfl, if_true, io_274, jo_lt, jo_le, jo_gt, jo_ge, jo_eq, jo_ne, ent_1_1, ent_2_1, ent_2_2, ent_3_1, ent_3_2, ent_3_3, ent_4_1, ent_4_2, ent_4_3, ent_4_4, ent_5_1, ent_5_2, ent_5_3, ent_5_4, ent_5_5, ent_6_1, ent_6_2, ent_6_3, ent_6_4, ent_6_5, ent_6_6, ent_7_1, ent_7_2, ent_7_3, ent_7_4, ent_7_5, ent_7_6, ent_8_1, ent_8_2, ent_8_3, ent_8_4, ent_8_5, ent_8_6, ent_9_1, ent_9_2, ent_9_3, ent_9_4, ent_9_5, ent_9_6, if_false, decide_true, decide_false, Bool.false_eq_true, and_self, and_true, true_and, and_false, false_and, or_true, true_or, or_false, false_or, decide_eq_true_eq, not_true_eq_false, not_false_eq_true, jo_b_dec, Bool.not_true, Bool.not_false, dgr_0 hd, dgr_3 hd, dgr_4 hd, dgr_5 hd, dgr_6 hd, dgr_7 hd, dgr_8 hd, dgr_9 hd, dgr_10 hd, dgr_11 hd, dgr_12 hd, dgi_1 hd, dgi_2 hd, dpi_1 hd, dpi_2 hd, dld_1 hd, dst_1 hd, dld_2 hd, dst_2 hd, dld_3 hd, dst_3 hd, dld_4 hd, dst_4 hd, dld_5 hd, dst_5 hd, dld_6 hd, dst_6 hd, dld_7 hd, dst_7 hd, dld_8 hd, dst_8 hd, dld_9 hd, dst_9 hd, dld_11 hd, dst_11 hd, dbr_0 hd, dbi_1 hd, dbi_2 hd, dbp_1 hd, dbp_2 hd, dbo hd, dio hd, gi_18_0, gi_18_1, gi_18_2, gr_18_3, gr_18_4, ld_19, ld_20, nn_in (show p < 7 by omega) (by decide), nn_clamp (show p < 2147483648 by omega), nn_in (show c < 4 by omega) (by decide), nn_clamp (show c < 2147483648 by omega), hx5, hx6, hx8, hy, h1, h2, h3, sp_called]
    · simp only [ev_seq, ev_if, ev_ret, ev_retv, ev_skip, ev_pop, ev_puti, ev_putz, ev_updf, ev_st, ev_stz, ev_upda, ev_scall, ev_int, ev_lng, ev_bin, ev_un, ev_div, ev_ldiv, ev_fi, ev_fr, ev_ld, ev_lr, ev_and, ev_or, ev_not, ev_of, ev_ite, ev_gnil, ev_gcons, ev_call, Option.bind_some, ev_loc0, ev_seti0, ev_setr0, ev_inc0, ev_loc1, ev_seti1, ev_setr1, ev_inc1, ev_loc2, ev_seti2, ev_setr2, ev_inc2, ev_loc3, ev_seti3, ev_setr3, ev_inc3, ev_loc4, ev_seti4, ev_setr4, ev_inc4, ev_loc5, ev_seti5, ev_setr5, ev_inc5, ev_loc6, ev_seti6, ev_setr6, ev_inc6, ev_loc7, ev_seti7, ev_setr7, ev_inc7, ev_loc8, ev_seti8, ev_setr8, ev_inc8, ev_lor0, ev_lor1, ev_lor2, ev_lor3, ev_isS, ok_same, List.length_cons, List.length_nil, Nat.zero_add, Nat.reduceAdd, BEq.rfl, if_true, io_274, jo_lt, jo_le, jo_gt, jo_ge, jo_eq, jo_ne, ent_1_1, ent_2_1, ent_2_2, ent_3_1, ent_3_2, ent_3_3, ent_4_1, ent_4_2, ent_4_3, ent_4_4, ent_5_1, ent_5_2, ent_5_3, ent_5_4, ent_5_5, ent_6_1, ent_6_2, ent_6_3, ent_6_4, ent_6_5, ent_6_6, ent_7_1, ent_7_2, ent_7_3, ent_7_4, ent_7_5, ent_7_6, ent_8_1, ent_8_2, ent_8_3, ent_8_4, ent_8_5, ent_8_6, ent_9_1, ent_9_2, ent_9_3, ent_9_4, ent_9_5, ent_9_6, if_false, decide_true, decide_false, Bool.false_eq_true, and_self, and_true, true_and, and_false, false_and, or_true, true_or, or_false, false_or, decide_eq_true_eq, not_true_eq_false, not_false_eq_true, jo_b_dec, Bool.not_true, Bool.not_false, dgr_0 hd, dgr_3 hd, dgr_4 hd, dgr_5 hd, dgr_6 hd, dgr_7 hd, dgr_8 hd, dgr_9 hd, dgr_10 hd, dgr_11 hd, dgr_12 hd, dgi_1 hd, dgi_2 hd, dpi_1 hd, dpi_2 hd, dld_1 hd, dst_1 hd, dld_2 hd, dst_2 hd, dld_3 hd, dst_3 hd, dld_4 hd, dst_4 hd, dld_5 hd, dst_5 hd, dld_6 hd, dst_6 hd, dld_7 hd, dst_7 hd, dld_8 hd, dst_8 hd, dld_9 hd, dst_9 hd, dld_11 hd, dst_11 hd, dbr_0 hd, dbi_1 hd, dbi_2 hd, dbp_1 hd, dbp_2 hd, dbo hd, dio hd, gi_18_0, gi_18_1, gi_18_2, gr_18_3, gr_18_4, ld_19, ld_20, nn_in (show p < 7 by omega) (by decide), nn_clamp (show p < 2147483648 by omega), nn_in (show c < 4 by omega) (by decide), nn_clamp (show c < 2147483648 by omega), hx5, hx6, hx8, hy, h1, h2, sp_called]
theorem x_callIn {d : Nat} (hd : DayAt d 18) {f : Nat → Nat → Int32} {ni nc np hb : Nat} {K W V : Nat → Int32} (hr : XRoad f ni nc np K W) (hd18 : d ≠ 18 ∧ (∀ j, j < 12 → d + j ≠ 18 ∧ d + j ≠ 19 ∧ d + j ≠ 20)) (ho : RoadOK ni nc np K W) (hv : XD f d nc np V) (hk : DayOK ni nc np hb V) {c : Nat} (hc : c < nc) : ∃ f', MX0_callIn [.ref d, .int (nI c), .int (sp_left nc np K V c)] (SG, f) = some ((), (SG, f')) ∧ (∀ p, p < np → f' (d + 5) p = sp_at1 nc K V c p ∧ f' (d + 6) p = sp_in1 nc K V c p ∧ f' (d + 8) p = sp_bk1 nc K V c p) ∧ ∀ a, a ≠ d + 5 → a ≠ d + 6 → a ≠ d + 8 → f' a = f a := by
  have hnp := ho.2.2.1
  have hnc := ho.2.1
  have hni := ok_ni ho
  have key : ∃ L' h', BX0_callIn [some (.ref d), some (.int (nI c)), some (.int (sp_left nc np K V c)), none] (SG, f) = some (.inr (none, h')) ∧ ∃ f', h' = (SG, f') ∧ L' = ([] : jz_L) ∧ (∀ p, p < np → f' (d + 5) p = sp_at1 nc K V c p ∧ f' (d + 6) p = sp_in1 nc K V c p ∧ f' (d + 8) p = sp_bk1 nc K V c p) ∧ ∀ a, a ≠ d + 5 → a ≠ d + 6 → a ≠ d + 8 → f' a = f a := by
    unfold BX0_callIn
    have hw := for_inv (c := (je_bin jo_lt (je_loc 3) (je_fi 3 2 (je_fr 0 0 (je_lor 0))))) (s := (js_seq (js_if (je_bin jo_eq (je_bin (· &&& ·) (je_bin jo_shr (je_loc 2) (je_loc 3)) (je_int (1))) (je_int (1))) (js_st (je_fr 0 10 (je_lor 0)) (je_loc 3) (je_int (-1))) (js_if (jb_of (je_call (jz_isO 0 2) MX0_isCalledBy (jg_cons Value.ref (je_lor 0) (jg_cons Value.int (je_loc 1) (jg_cons Value.int (je_loc 3) jg_nil))))) (js_seq (js_st (je_fr 0 7 (je_lor 0)) (je_loc 3) (je_int (-1))) (js_st (je_fr 0 8 (je_lor 0)) (je_loc 3) (je_loc 1))) js_skip)) (js_inc 3 (1)))) (L0 := [some (.ref d), some (.int (nI c)), some (.int (sp_left nc np K V c)), some (.int 0)]) (h0 := (SG, f)) (fuel := 2000)
      (fun i L h => L = [some (.ref d), some (.int (nI c)), some (.int (sp_left nc np K V c)), some (.int (nI i))] ∧ ∃ f', h = (SG, f') ∧ (∀ p, p < i → f' (d + 5) p = sp_at1 nc K V c p ∧ f' (d + 6) p = sp_in1 nc K V c p ∧ f' (d + 8) p = sp_bk1 nc K V c p) ∧ (∀ p, i ≤ p → f' (d + 5) p = f (d + 5) p ∧ f' (d + 6) p = f (d + 6) p ∧ f' (d + 8) p = f (d + 8) p) ∧ ∀ a, a ≠ d + 5 → a ≠ d + 6 → a ≠ d + 8 → f' a = f a) np
      ⟨rfl, f, rfl, fun p hp => absurd hp (by omega), fun p _ => ⟨rfl, rfl, rfl⟩, fun a _ _ _ => rfl⟩ (by omega) ?_ ?_
    · obtain ⟨L', h', hw1, rfl, f', rfl, hw2, hw3, hw4⟩ := hw
      refine ⟨[], (SG, f'), ?_, f', rfl, rfl, hw2, hw4⟩
      refine seq_some [some (.ref d), some (.int (nI c)), some (.int (sp_left nc np K V c)), some (.int (nI np))] (SG, f') ?_ rfl
      refine seq_some [some (.ref d), some (.int (nI c)), some (.int (sp_left nc np K V c)), some (.int 0)] (SG, f) rfl ?_
      exact hw1
    · rintro i L h hi ⟨rfl, f', rfl, hI1, hI2, hI3⟩
      have h18 : f' 18 = f 18 := hI3 18 (fun z => (hd18.2 5 (by omega)).1 z.symm) (fun z => (hd18.2 6 (by omega)).1 z.symm) (fun z => (hd18.2 8 (by omega)).1 z.symm)
      have hcn : f' 18 2 = nI np := by rw [h18]; exact hr.2.2.1
      refine ⟨by simp only [ev_seq, ev_if, ev_ret, ev_retv, ev_skip, ev_pop, ev_puti, ev_putz, ev_updf, ev_st, ev_stz, ev_upda, ev_scall, ev_int, ev_lng, ev_bin, ev_un, ev_div, ev_ldiv, ev_fi, ev_fr, ev_ld, ev_lr, ev_and, ev_or, ev_not, ev_of, ev_ite, ev_gnil, ev_gcons, ev_call, Option.bind_some, ev_loc0, ev_seti0, ev_setr0, ev_inc0, ev_loc1, ev_seti1, ev_setr1, ev_inc1, ev_loc2, ev_seti2, ev_setr2, ev_inc2, ev_loc3, ev_seti3, ev_setr3, ev_inc3, ev_loc4, ev_seti4, ev_setr4, ev_inc4, ev_loc5, ev_seti5, ev_setr5, ev_inc5, ev_loc6, ev_seti6, ev_setr6, ev_inc6, ev_loc7, ev_seti7, ev_setr7, ev_inc7, ev_loc8, ev_seti8, ev_setr8, ev_inc8, ev_lor0, ev_lor1, ev_lor2, ev_lor3, ev_isS, ok_same, List.length_cons, List.length_nil, Nat.zero_add, Nat.reduceAdd, BEq.rfl, if_true, io_274, jo_lt, jo_le, jo_gt, jo_ge, jo_eq, jo_ne, ent_1_1, ent_2_1, ent_2_2, ent_3_1, ent_3_2, ent_3_3, ent_4_1, ent_4_2, ent_4_3, ent_4_4, ent_5_1, ent_5_2, ent_5_3, ent_5_4, ent_5_5, ent_6_1, ent_6_2, ent_6_3, ent_6_4, ent_6_5, ent_6_6, ent_7_1, ent_7_2, ent_7_3, ent_7_4, ent_7_5, ent_7_6, ent_8_1, ent_8_2, ent_8_3, ent_8_4, ent_8_5, ent_8_6, ent_9_1, ent_9_2, ent_9_3, ent_9_4, ent_9_5, ent_9_6, if_false, decide_true, decide_false, Bool.false_eq_true, and_self, and_true, true_and, and_false, false_and, or_true, true_or, or_false, false_or, decide_eq_true_eq, not_true_eq_false, not_false_eq_true, jo_b_dec, Bool.not_true, Bool.not_false, dgr_0 hd, dgr_3 hd, dgr_4 hd, dgr_5 hd, dgr_6 hd, dgr_7 hd, dgr_8 hd, dgr_9 hd, dgr_10 hd, dgr_11 hd, dgr_12 hd, dgi_1 hd, dgi_2 hd, dpi_1 hd, dpi_2 hd, dld_1 hd, dst_1 hd, dld_2 hd, dst_2 hd, dld_3 hd, dst_3 hd, dld_4 hd, dst_4 hd, dld_5 hd, dst_5 hd, dld_6 hd, dst_6 hd, dld_7 hd, dst_7 hd, dld_8 hd, dst_8 hd, dld_9 hd, dst_9 hd, dld_11 hd, dst_11 hd, dbr_0 hd, dbi_1 hd, dbi_2 hd, dbp_1 hd, dbp_2 hd, dbo hd, dio hd, gi_18_0, gi_18_1, gi_18_2, gr_18_3, gr_18_4, ld_19, ld_20, hcn, nn_lt (show i < 2147483648 by omega) (show np < 2147483648 by omega), hi], ?_⟩
      have hb1 := set_sp (P := sp_lb nc K V c) hnp hi
      have hx := hv.2.1 i hi
      have hz := hI2 i (Nat.le_refl i)
      have hcall := x_called2 hd hnc hnp hni hk hc hi (hz.1.trans hx.1) (hz.2.1.trans hx.2.1) (hz.2.2.trans hx.2.2.2.1) ((congrFun (hI3 (d + 1) (by omega) (by omega) (by omega)) c).trans (hv.1 c hc).1)
      by_cases h1 : sp_lb nc K V c i = true
      · have hbit : jo_shr (sp_left nc np K V c) (nI i) &&& 1 = 1 := hb1.mpr h1
        refine ⟨_, (SG, jz_up f' (d + 8) i (-1)), by simp only [ev_seq, ev_if, ev_ret, ev_retv, ev_skip, ev_pop, ev_puti, ev_putz, ev_updf, ev_st, ev_stz, ev_upda, ev_scall, ev_int, ev_lng, ev_bin, ev_un, ev_div, ev_ldiv, ev_fi, ev_fr, ev_ld, ev_lr, ev_and, ev_or, ev_not, ev_of, ev_ite, ev_gnil, ev_gcons, ev_call, Option.bind_some, ev_loc0, ev_seti0, ev_setr0, ev_inc0, ev_loc1, ev_seti1, ev_setr1, ev_inc1, ev_loc2, ev_seti2, ev_setr2, ev_inc2, ev_loc3, ev_seti3, ev_setr3, ev_inc3, ev_loc4, ev_seti4, ev_setr4, ev_inc4, ev_loc5, ev_seti5, ev_setr5, ev_inc5, ev_loc6, ev_seti6, ev_setr6, ev_inc6, ev_loc7, ev_seti7, ev_setr7, ev_inc7, ev_loc8, ev_seti8, ev_setr8, ev_inc8, ev_lor0, ev_lor1, ev_lor2, ev_lor3, ev_isS, ok_same, List.length_cons, List.length_nil, Nat.zero_add, Nat.reduceAdd, BEq.rfl, if_true, io_274, jo_lt, jo_le, jo_gt, jo_ge, jo_eq, jo_ne, ent_1_1, ent_2_1, ent_2_2, ent_3_1, ent_3_2, ent_3_3, ent_4_1, ent_4_2, ent_4_3, ent_4_4, ent_5_1, ent_5_2, ent_5_3, ent_5_4, ent_5_5, ent_6_1, ent_6_2, ent_6_3, ent_6_4, ent_6_5, ent_6_6, ent_7_1, ent_7_2, ent_7_3, ent_7_4, ent_7_5, ent_7_6, ent_8_1, ent_8_2, ent_8_3, ent_8_4, ent_8_5, ent_8_6, ent_9_1, ent_9_2, ent_9_3, ent_9_4, ent_9_5, ent_9_6, if_false, decide_true, decide_false, Bool.false_eq_true, and_self, and_true, true_and, and_false, false_and, or_true, true_or, or_false, false_or, decide_eq_true_eq, not_true_eq_false, not_false_eq_true, jo_b_dec, Bool.not_true, Bool.not_false, dgr_0 hd, dgr_3 hd, dgr_4 hd, dgr_5 hd, dgr_6 hd, dgr_7 hd, dgr_8 hd, dgr_9 hd, dgr_10 hd, dgr_11 hd, dgr_12 hd, dgi_1 hd, dgi_2 hd, dpi_1 hd, dpi_2 hd, dld_1 hd, dst_1 hd, dld_2 hd, dst_2 hd, dld_3 hd, dst_3 hd, dld_4 hd, dst_4 hd, dld_5 hd, dst_5 hd, dld_6 hd, dst_6 hd, dld_7 hd, dst_7 hd, dld_8 hd, dst_8 hd, dld_9 hd, dst_9 hd, dld_11 hd, dst_11 hd, dbr_0 hd, dbi_1 hd, dbi_2 hd, dbp_1 hd, dbp_2 hd, dbo hd, dio hd, gi_18_0, gi_18_1, gi_18_2, gr_18_3, gr_18_4, ld_19, ld_20, hbit, nn_in (show i < 7 by omega) (by decide), nn_clamp (show i < 2147483648 by omega)]; rfl, by simp only [nn_succ], _, rfl, ?_, ?_, ?_⟩
        · intro p hp
          by_cases hpi : p = i
          · subst hpi
            have hg : sp_gets nc K V c p = false := by simp [sp_gets, h1]
            simp only [up_at, sp_at1, sp_in1, sp_bk1, hg, h1]
            simp [hz.1, hz.2.1, hx.1, hx.2.1]
          · have h2 := hI1 p (by omega)
            simp only [up_at]
            simp [h2.1, h2.2.1, h2.2.2, hpi]
        · intro p hp
          have h2 := hI2 p (by omega)
          have hpi : p ≠ i := by omega
          simp only [up_at]
          simp [h2.1, h2.2.1, h2.2.2, hpi]
        · intro a ha5 ha6 ha8
          rw [up_ne ha8]; exact hI3 a ha5 ha6 ha8
      · have hbit : ¬ jo_shr (sp_left nc np K V c) (nI i) &&& 1 = 1 := fun z => h1 (hb1.mp z)
        by_cases h2 : sp_called V c i
        · rw [decide_eq_true h2] at hcall
          refine ⟨_, (SG, jz_up (jz_up f' (d + 5) i (-1)) (d + 6) i (nI c)), by simp only [ev_seq, ev_if, ev_ret, ev_retv, ev_skip, ev_pop, ev_puti, ev_putz, ev_updf, ev_st, ev_stz, ev_upda, ev_scall, ev_int, ev_lng, ev_bin, ev_un, ev_div, ev_ldiv, ev_fi, ev_fr, ev_ld, ev_lr, ev_and, ev_or, ev_not, ev_of, ev_ite, ev_gnil, ev_gcons, ev_call, Option.bind_some, ev_loc0, ev_seti0, ev_setr0, ev_inc0, ev_loc1, ev_seti1, ev_setr1, ev_inc1, ev_loc2, ev_seti2, ev_setr2, ev_inc2, ev_loc3, ev_seti3, ev_setr3, ev_inc3, ev_loc4, ev_seti4, ev_setr4, ev_inc4, ev_loc5, ev_seti5, ev_setr5, ev_inc5, ev_loc6, ev_seti6, ev_setr6, ev_inc6, ev_loc7, ev_seti7, ev_setr7, ev_inc7, ev_loc8, ev_seti8, ev_setr8, ev_inc8, ev_lor0, ev_lor1, ev_lor2, ev_lor3, ev_isS, ok_same, List.length_cons, List.length_nil, Nat.zero_add, Nat.reduceAdd, BEq.rfl, if_true, io_274, jo_lt, jo_le, jo_gt, jo_ge, jo_eq, jo_ne, ent_1_1, ent_2_1, ent_2_2, ent_3_1, ent_3_2, ent_3_3, ent_4_1, ent_4_2, ent_4_3, ent_4_4, ent_5_1, ent_5_2, ent_5_3, ent_5_4, ent_5_5, ent_6_1, ent_6_2, ent_6_3, ent_6_4, ent_6_5, ent_6_6, ent_7_1, ent_7_2, ent_7_3, ent_7_4, ent_7_5, ent_7_6, ent_8_1, ent_8_2, ent_8_3, ent_8_4, ent_8_5, ent_8_6, ent_9_1, ent_9_2, ent_9_3, ent_9_4, ent_9_5, ent_9_6, if_false, decide_true, decide_false, Bool.false_eq_true, and_self, and_true, true_and, and_false, false_and, or_true, true_or, or_false, false_or, decide_eq_true_eq, not_true_eq_false, not_false_eq_true, jo_b_dec, Bool.not_true, Bool.not_false, dgr_0 hd, dgr_3 hd, dgr_4 hd, dgr_5 hd, dgr_6 hd, dgr_7 hd, dgr_8 hd, dgr_9 hd, dgr_10 hd, dgr_11 hd, dgr_12 hd, dgi_1 hd, dgi_2 hd, dpi_1 hd, dpi_2 hd, dld_1 hd, dst_1 hd, dld_2 hd, dst_2 hd, dld_3 hd, dst_3 hd, dld_4 hd, dst_4 hd, dld_5 hd, dst_5 hd, dld_6 hd, dst_6 hd, dld_7 hd, dst_7 hd, dld_8 hd, dst_8 hd, dld_9 hd, dst_9 hd, dld_11 hd, dst_11 hd, dbr_0 hd, dbi_1 hd, dbi_2 hd, dbp_1 hd, dbp_2 hd, dbo hd, dio hd, gi_18_0, gi_18_1, gi_18_2, gr_18_3, gr_18_4, ld_19, ld_20, hbit, hcall, nn_in (show i < 7 by omega) (by decide), nn_clamp (show i < 2147483648 by omega)]; rfl, by simp only [nn_succ], _, rfl, ?_, ?_, ?_⟩
          · intro p hp
            by_cases hpi : p = i
            · subst hpi
              have hg : sp_gets nc K V c p = true := by simp [sp_gets, h1, h2]
              simp only [up_at, sp_at1, sp_in1, sp_bk1, hg, h1]
              simp [hz.2.2, hx.2.2.2.1]
            · have h2 := hI1 p (by omega)
              simp only [up_at]
              simp [h2.1, h2.2.1, h2.2.2, hpi]
          · intro p hp
            have h2 := hI2 p (by omega)
            have hpi : p ≠ i := by omega
            simp only [up_at]
            simp [h2.1, h2.2.1, h2.2.2, hpi]
          · intro a ha5 ha6 ha8
            rw [up_ne ha6, up_ne ha5]; exact hI3 a ha5 ha6 ha8
        · rw [decide_eq_false h2] at hcall
          refine ⟨_, (SG, f'), by simp only [ev_seq, ev_if, ev_ret, ev_retv, ev_skip, ev_pop, ev_puti, ev_putz, ev_updf, ev_st, ev_stz, ev_upda, ev_scall, ev_int, ev_lng, ev_bin, ev_un, ev_div, ev_ldiv, ev_fi, ev_fr, ev_ld, ev_lr, ev_and, ev_or, ev_not, ev_of, ev_ite, ev_gnil, ev_gcons, ev_call, Option.bind_some, ev_loc0, ev_seti0, ev_setr0, ev_inc0, ev_loc1, ev_seti1, ev_setr1, ev_inc1, ev_loc2, ev_seti2, ev_setr2, ev_inc2, ev_loc3, ev_seti3, ev_setr3, ev_inc3, ev_loc4, ev_seti4, ev_setr4, ev_inc4, ev_loc5, ev_seti5, ev_setr5, ev_inc5, ev_loc6, ev_seti6, ev_setr6, ev_inc6, ev_loc7, ev_seti7, ev_setr7, ev_inc7, ev_loc8, ev_seti8, ev_setr8, ev_inc8, ev_lor0, ev_lor1, ev_lor2, ev_lor3, ev_isS, ok_same, List.length_cons, List.length_nil, Nat.zero_add, Nat.reduceAdd, BEq.rfl, if_true, io_274, jo_lt, jo_le, jo_gt, jo_ge, jo_eq, jo_ne, ent_1_1, ent_2_1, ent_2_2, ent_3_1, ent_3_2, ent_3_3, ent_4_1, ent_4_2, ent_4_3, ent_4_4, ent_5_1, ent_5_2, ent_5_3, ent_5_4, ent_5_5, ent_6_1, ent_6_2, ent_6_3, ent_6_4, ent_6_5, ent_6_6, ent_7_1, ent_7_2, ent_7_3, ent_7_4, ent_7_5, ent_7_6, ent_8_1, ent_8_2, ent_8_3, ent_8_4, ent_8_5, ent_8_6, ent_9_1, ent_9_2, ent_9_3, ent_9_4, ent_9_5, ent_9_6, if_false, decide_true, decide_false, Bool.false_eq_true, and_self, and_true, true_and, and_false, false_and, or_true, true_or, or_false, false_or, decide_eq_true_eq, not_true_eq_false, not_false_eq_true, jo_b_dec, Bool.not_true, Bool.not_false, dgr_0 hd, dgr_3 hd, dgr_4 hd, dgr_5 hd, dgr_6 hd, dgr_7 hd, dgr_8 hd, dgr_9 hd, dgr_10 hd, dgr_11 hd, dgr_12 hd, dgi_1 hd, dgi_2 hd, dpi_1 hd, dpi_2 hd, dld_1 hd, dst_1 hd, dld_2 hd, dst_2 hd, dld_3 hd, dst_3 hd, dld_4 hd, dst_4 hd, dld_5 hd, dst_5 hd, dld_6 hd, dst_6 hd, dld_7 hd, dst_7 hd, dld_8 hd, dst_8 hd, dld_9 hd, dst_9 hd, dld_11 hd, dst_11 hd, dbr_0 hd, dbi_1 hd, dbi_2 hd, dbp_1 hd, dbp_2 hd, dbo hd, dio hd, gi_18_0, gi_18_1, gi_18_2, gr_18_3, gr_18_4, ld_19, ld_20, hbit, hcall]; rfl, by simp only [nn_succ], _, rfl, ?_, fun p hp => hI2 p (by omega), hI3⟩
          intro p hp
          by_cases hpi : p = i
          · subst hpi
            have hg : sp_gets nc K V c p = false := by simp [sp_gets, h2]
            simp only [sp_at1, sp_in1, sp_bk1, hg, h1]
            simp [hz.1, hz.2.1, hz.2.2, hx.1, hx.2.1, hx.2.2.2.1]
          · exact hI1 p (by omega)
    · rintro L h ⟨rfl, f', rfl, hI1, hI2, hI3⟩
      have h18 : f' 18 = f 18 := hI3 18 (fun z => (hd18.2 5 (by omega)).1 z.symm) (fun z => (hd18.2 6 (by omega)).1 z.symm) (fun z => (hd18.2 8 (by omega)).1 z.symm)
      have hcn : f' 18 2 = nI np := by rw [h18]; exact hr.2.2.1
      simp only [ev_seq, ev_if, ev_ret, ev_retv, ev_skip, ev_pop, ev_puti, ev_putz, ev_updf, ev_st, ev_stz, ev_upda, ev_scall, ev_int, ev_lng, ev_bin, ev_un, ev_div, ev_ldiv, ev_fi, ev_fr, ev_ld, ev_lr, ev_and, ev_or, ev_not, ev_of, ev_ite, ev_gnil, ev_gcons, ev_call, Option.bind_some, ev_loc0, ev_seti0, ev_setr0, ev_inc0, ev_loc1, ev_seti1, ev_setr1, ev_inc1, ev_loc2, ev_seti2, ev_setr2, ev_inc2, ev_loc3, ev_seti3, ev_setr3, ev_inc3, ev_loc4, ev_seti4, ev_setr4, ev_inc4, ev_loc5, ev_seti5, ev_setr5, ev_inc5, ev_loc6, ev_seti6, ev_setr6, ev_inc6, ev_loc7, ev_seti7, ev_setr7, ev_inc7, ev_loc8, ev_seti8, ev_setr8, ev_inc8, ev_lor0, ev_lor1, ev_lor2, ev_lor3, ev_isS, ok_same, List.length_cons, List.length_nil, Nat.zero_add, Nat.reduceAdd, BEq.rfl, if_true, io_274, jo_lt, jo_le, jo_gt, jo_ge, jo_eq, jo_ne, ent_1_1, ent_2_1, ent_2_2, ent_3_1, ent_3_2, ent_3_3, ent_4_1, ent_4_2, ent_4_3, ent_4_4, ent_5_1, ent_5_2, ent_5_3, ent_5_4, ent_5_5, ent_6_1, ent_6_2, ent_6_3, ent_6_4, ent_6_5, ent_6_6, ent_7_1, ent_7_2, ent_7_3, ent_7_4, ent_7_5, ent_7_6, ent_8_1, ent_8_2, ent_8_3, ent_8_4, ent_8_5, ent_8_6, ent_9_1, ent_9_2, ent_9_3, ent_9_4, ent_9_5, ent_9_6, if_false, decide_true, decide_false, Bool.false_eq_true, and_self, and_true, true_and, and_false, false_and, or_true, true_or, or_false, false_or, decide_eq_true_eq, not_true_eq_false, not_false_eq_true, jo_b_dec, Bool.not_true, Bool.not_false, dgr_0 hd, dgr_3 hd, dgr_4 hd, dgr_5 hd, dgr_6 hd, dgr_7 hd, dgr_8 hd, dgr_9 hd, dgr_10 hd, dgr_11 hd, dgr_12 hd, dgi_1 hd, dgi_2 hd, dpi_1 hd, dpi_2 hd, dld_1 hd, dst_1 hd, dld_2 hd, dst_2 hd, dld_3 hd, dst_3 hd, dld_4 hd, dst_4 hd, dld_5 hd, dst_5 hd, dld_6 hd, dst_6 hd, dld_7 hd, dst_7 hd, dld_8 hd, dst_8 hd, dld_9 hd, dst_9 hd, dld_11 hd, dst_11 hd, dbr_0 hd, dbi_1 hd, dbi_2 hd, dbp_1 hd, dbp_2 hd, dbo hd, dio hd, gi_18_0, gi_18_1, gi_18_2, gr_18_3, gr_18_4, ld_19, ld_20, hcn, Int32.lt_irrefl]
  obtain ⟨-, h', h1, f', rfl, -, h2, h3⟩ := key
  exact ⟨f', run_V rfl ⟨rfl, Nat.le_of_ble_eq_true rfl⟩ h1, h2, h3⟩
