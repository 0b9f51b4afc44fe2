theorem nn_div {a b : Nat} (ha : a < 2147483648) (hb : b < 2147483648) : nI a / nI b = nI (a / b) := by
  apply Int32.toInt_inj.mp
  have h1 : a / b ≤ a := Nat.div_le_self a b
  rw [Int32.toInt_div, nn_toInt ha, nn_toInt hb, nn_toInt (by omega)]
  have h2 : Int.tdiv (a : Int) (b : Int) = ((a / b : Nat) : Int) := rfl
  rw [h2]
  generalize a / b = q at h1 ⊢
  exact Int.bmod_eq_of_le (by omega) (by omega)
theorem nn_mul (a b : Nat) : nI a * nI b = nI (a * b) := by
  unfold nI; rw [Int32.ofNat_mul]
theorem nn_sub {a b : Nat} (h : b ≤ a) : nI a - nI b = nI (a - b) := by
  have h1 : nI a = nI (a - b) + nI b := by rw [nn_add]; congr 1; omega
  rw [h1, Int32.add_sub_cancel]
theorem nn_rem {a b : Nat} (ha : a < 2147483648) (hb : b < 2147483648) : jo_rem (nI a) (nI b) = nI (a % b) := by
  unfold jo_rem
  rw [nn_div ha hb, nn_mul, nn_sub (Nat.div_mul_le_self a b)]
  congr 1
  have := Nat.div_add_mod a b
  rw [Nat.mul_comm] at this
  omega
/-- the lag in the dark is 0 .. 39 -/
theorem dark_nn {k : Int32} {s h : Nat} (hs : s ≤ 30) (hh : h < 2147483648) (b : Bool) : ∃ m, m ≤ 39 ∧ sp_dark k (nI s) b (nI h) = nI m := by
  unfold sp_dark
  split
  · split
    · exact ⟨s + 9, by omega, nn_add s 9⟩
    · exact ⟨s, by omega, rfl⟩
  · split
    · exact ⟨s + h % 3, by omega, by rw [show (3 : Int32) = nI 3 from rfl, nn_rem hh (by decide), nn_add]⟩
    · split
      · exact ⟨s / 2, by omega, by rw [show (2 : Int32) = nI 2 from rfl, nn_div (by omega) (by decide)]⟩
      · exact ⟨s, by omega, rfl⟩
theorem lag_nn {ni nc np hb : Nat} {K V : Nat → Int32} (hv : DayOK ni nc np hb V) (hhb : hb < 2147483648) {p : Nat} (hp : p < np) : ∃ m, m ≤ 39 ∧ sp_lag nc K V p = nI m := by
  obtain ⟨s, hs, es⟩ := (hv.2.1 p hp).2.1
  obtain ⟨h, hh, eh⟩ := hv.2.2.2
  obtain ⟨m, hm, em⟩ := dark_nn (k := K p) hs (show h < 2147483648 by omega) (decide (sp_ow nc V (nI p) = 0))
  unfold sp_lag
  rw [es, eh, em]
  by_cases hl : jo_shr (V 51) (V (16 + p)) &&& 1 = 1
  · simp only [hl, if_true]
    split
    · next h0 =>
      rcases Nat.lt_or_ge m 5 with h5 | h5
      · exfalso
        have h1 : (nI m - 5).toInt = (m : Int) - 5 := by
          rw [Int32.toInt_sub, nn_toInt (by omega)]
          show Int.bmod ((m : Int) - 5) (2 ^ 32) = _
          exact Int.bmod_eq_of_le (by omega) (by omega)
        rw [Int32.lt_iff_toInt_lt, h1] at h0
        have hz : (0 : Int32).toInt = 0 := by decide
        omega
      · exact ⟨m - 5, by omega, nn_sub h5⟩
    · exact ⟨0, by omega, rfl⟩
  · simp only [hl, if_false, Int32.sub_zero]
    split
    · exact ⟨m, hm, rfl⟩
    · exact ⟨0, by omega, rfl⟩
theorem x_lag {d : Nat} (hd : DayAt d 18) {f : Nat → Nat → Int32} {ni nc np hb : Nat} {K W V : Nat → Int32} (hr : XRoad f ni nc np K W) (ho : RoadOK ni nc np K W) (hv : XD f d nc np V) (hk : DayOK ni nc np hb V) (hhb : hb < 2147483648) {p : Nat} (hp : p < np) (hat : ∃ k, k < ni ∧ V (16 + p) = nI k) : MX0_lag [.ref d, .int (nI p)] (SG, f) = some (sp_lag nc K V p, (SG, f)) := by
  have hnp := ho.2.2.1
  have hx := hv.2.1 p hp
  obtain ⟨k, hk1, hk2⟩ := hat
  have hni : ni ≤ 7 := by rcases ho.1 with h | h <;> omega
  refine run_I rfl ⟨rfl, Nat.le_of_ble_eq_true rfl⟩ ?_
  unfold BX0_lag
  have hge : (0 : Int32) ≤ nI k := nI_pos' (by omega)
  simp only [ev_seq, ev_if, ev_ret, ev_retv, ev_skip, ev_pop, ev_puti, ev_putz, ev_updf, ev_st, ev_stz, ev_upda, ev_scall, ev_int, ev_lng, ev_bin, ev_un, ev_div, ev_ldiv, ev_fi, ev_fr, ev_ld, ev_lr, ev_and, ev_or, ev_not, ev_of, ev_ite, ev_gnil, ev_gcons, ev_call, Option.bind_some, ev_loc0, ev_seti0, ev_setr0, ev_inc0, ev_loc1, ev_seti1, ev_setr1, ev_inc1, ev_loc2, ev_seti2, ev_setr2, ev_inc2, ev_loc3, ev_seti3, ev_setr3, ev_inc3, ev_loc4, ev_seti4, ev_setr4, ev_inc4, ev_loc5, ev_seti5, ev_setr5, ev_inc5, ev_loc6, ev_seti6, ev_setr6, ev_inc6, ev_loc7, ev_seti7, ev_setr7, ev_inc7, ev_loc8, ev_seti8, ev_setr8, ev_inc8, ev_lor0, ev_lor1, ev_lor2, ev_lor3, ev_isS, ok_same, List.length_cons, List.length_nil, Nat.zero_add, Nat.reduceAdd, BEq.rfl, if_true, io_274, jo_lt, jo_le, jo_gt, jo_ge, jo_eq, jo_ne, ent_1_1, ent_2_1, ent_2_2, ent_3_1, ent_3_2, ent_3_3, ent_4_1, ent_4_2, ent_4_3, ent_4_4, ent_5_1, ent_5_2, ent_5_3, ent_5_4, ent_5_5, ent_6_1, ent_6_2, ent_6_3, ent_6_4, ent_6_5, ent_6_6, ent_7_1, ent_7_2, ent_7_3, ent_7_4, ent_7_5, ent_7_6, ent_8_1, ent_8_2, ent_8_3, ent_8_4, ent_8_5, ent_8_6, ent_9_1, ent_9_2, ent_9_3, ent_9_4, ent_9_5, ent_9_6, dgr_0 hd, dgr_9 hd, dgr_7 hd, gr_18_3, ld_19, dld_7 hd, dld_5 hd, dgi_1 hd, dgi_2 hd, dio hd, nn_in (show p < 7 by omega) (by decide), nn_clamp (show p < 2147483648 by omega), hr.2.2.2.1 p hp, hx.1, hx.2.2.1, hv.2.2.1, hv.2.2.2, xo hd hr ho.2.1 hv, x_dark SG f (ho.2.2.2.1 p hp), hk2, hge, decide_true, jo_b_dec, decide_eq_true_eq]
  obtain ⟨s, hs, es⟩ := (hk.2.1 p hp).2.1
  obtain ⟨h, hh, eh⟩ := hk.2.2.2
  obtain ⟨m, hm, em⟩ := dark_nn (k := K p) hs (show h < 2147483648 by omega) (decide (sp_ow nc V (nI p) = 0))
  unfold sp_lag
  simp only [hk2, es, eh, em]
  by_cases hl : jo_shr (V 51) (nI k) &&& 1 = 1
  · simp only [hl, if_true]
    by_cases h0 : 0 < nI m - 5
    · have h1 : ¬ nI m - 5 < 0 := Int32.not_lt.mpr (Int32.le_of_lt h0)
      simp only [h0, h1, if_true, if_false, Option.bind_some]
    · have h1 : nI m - 5 ≤ 0 := Int32.not_lt.mp h0
      by_cases h2 : nI m - 5 < 0
      · simp only [h0, h2, if_true, if_false, Option.bind_some]
      · have h3 : nI m - 5 = 0 := Int32.le_antisymm h1 (Int32.not_lt.mp h2)
        simp only [h3, Int32.lt_irrefl, if_false, Option.bind_some]
  · simp only [hl, if_false, Int32.sub_zero]
    by_cases h0 : 0 < nI m
    · simp only [h0, if_true, Option.bind_some]
    · have h1 : nI m = 0 := Int32.le_antisymm (Int32.not_lt.mp h0) (nI_pos' (by omega))
      simp only [h1, Int32.lt_irrefl, if_false, Option.bind_some]
