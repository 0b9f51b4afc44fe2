/-! LIGHTS: what lanterns do -/
section
variable {ni nc np : Nat} {K W V : Nat → Int32} {c : Nat}
theorem ow51 (hnc : nc ≤ 4) (x q : Int32) : sp_ow nc (upd V 51 x) q = sp_ow nc V q := by
  show sp_own _ q nc = sp_own _ q nc
  rw [own_set _ q nc (by omega), own_set _ q nc (by omega)]
  rw [set_congr (fun p hp => by rw [ud_ne (by omega)])]
/-- who is left, by whether there is light at the inn -/
def lt_lb (nc : Nat) (K V : Nat → Int32) (c p : Nat) (b : Bool) : Bool := decide (sp_called V c p ∧ V (8 + c) < (let l := sp_dark (K p) (V (30 + p)) (decide (sp_ow nc V (nI p) = 0)) (V 52) - (if b = true then 5 else 0); if 0 < l then l else 0))
theorem lb_is (hnc : nc ≤ 4) (hc : c < 4) {p : Nat} (hp : p < 7) (x : Int32) : sp_lb nc K (upd V 51 x) c p = lt_lb nc K V c p (decide (jo_shr x (V c) &&& 1 = 1)) := by
  unfold sp_lb lt_lb
  rw [decide_eq_decide]
  have e1 : upd V 51 x (37 + p) = V (37 + p) := ud_ne (by omega)
  have e2 : upd V 51 x (16 + p) = V (16 + p) := ud_ne (by omega)
  have e3 : upd V 51 x c = V c := ud_ne (by omega)
  have e4 : upd V 51 x (8 + c) = V (8 + c) := ud_ne (by omega)
  have e5 : upd V 51 x (30 + p) = V (30 + p) := ud_ne (by omega)
  have e6 : upd V 51 x 52 = V 52 := ud_ne (by omega)
  have e7 : upd V 51 x 51 = x := ud_at
  have ec : sp_called (upd V 51 x) c p ↔ sp_called V c p := by
    unfold sp_called
    rw [e1, e2, e3]
  rw [ec]
  refine and_congr_right (fun h => ?_)
  unfold sp_lag
  rw [e4, e2, e5, e6, e7, ow51 hnc, h.2]
  simp only [decide_eq_true_eq]
theorem lb_mono {hb : Nat} (hk : DayOK ni nc np hb V) (hhb : hb < 2147483648) {p : Nat} (hp : p < np) (h : lt_lb nc K V c p true = true) : lt_lb nc K V c p false = true := by
  obtain ⟨s, hs, es⟩ := (hk.2.1 p hp).2.1
  obtain ⟨h', hh, eh⟩ := hk.2.2.2
  obtain ⟨m, hm, em⟩ := dark_nn (k := K p) hs (show h' < 2147483648 by omega) (decide (sp_ow nc V (nI p) = 0))
  unfold lt_lb at h ⊢
  rw [decide_eq_true_eq] at h ⊢
  refine ⟨h.1, ?_⟩
  have h2 := h.2
  rw [es, eh, em] at h2 ⊢
  simp only [if_true, if_false, Bool.false_eq_true, Int32.sub_zero] at h2 ⊢
  have hz : (0 : Int32).toInt = 0 := by decide
  have h1 : (nI m - 5).toInt = (m : Int) - 5 := by
    rw [Int32.toInt_sub, nn_toInt (by omega)]
    show Int.bmod ((m : Int) - 5) (2 ^ 32) = _
    exact Int.bmod_eq_of_le (by omega) (by omega)
  have h3 : (nI m).toInt = m := nn_toInt (by omega)
  refine Int32.lt_of_lt_of_le h2 ?_
  rw [Int32.le_iff_toInt_le]
  split
  · next a =>
    split
    · omega
    · next b =>
      rw [Int32.lt_iff_toInt_lt] at a b
      omega
  · next a =>
    split
    · omega
    · omega
theorem left_all (hnp : np ≤ 7) : sp_left nc np K V c = 0 ↔ ∀ p, p < np → sp_lb nc K V c p = false := by
  rw [left_best hnp, best_none]
theorem blow51 (hnp : np ≤ 7) (hc : c < 4) {y : Int32} (h1 : ∀ p, p < 7 → sp_lb nc K V c p = false) (h2 : ∀ p, p < 7 → sp_lb nc K (upd V 51 y) c p = false) : sp_blow ni nc np K W (upd V 51 y) c = upd (sp_blow ni nc np K W V c) 51 y := by
  have ec : upd V 51 y c = V c := ud_ne (by omega)
  have e4 : upd V 51 y (4 + c) = V (4 + c) := ud_ne (by omega)
  have e12 : upd V 51 y (12 + c) = V (12 + c) := ud_ne (by omega)
  have up : sp_up1 ni (upd V 51 y) c = sp_up1 ni V c := by unfold sp_up1; rw [ec, e4]
  have inn : sp_inn1 ni (upd V 51 y) c = sp_inn1 ni V c := by unfold sp_inn1; rw [ec, up]
  have b1 : sp_best nc K V (sp_lb nc K V c) np = none := best_none.mpr (fun p hp => h1 p (by omega))
  have b2 : sp_best nc K (upd V 51 y) (sp_lb nc K (upd V 51 y) c) np = none := best_none.mpr (fun p hp => h2 p (by omega))
  have ow : sp_ow1 nc np K (upd V 51 y) c = sp_ow1 nc np K V c := by unfold sp_ow1; rw [b1, b2, e12]
  have gets : ∀ p, p < 7 → sp_gets nc K (upd V 51 y) c p = sp_gets nc K V c p := fun p hp => by
    have a1 : upd V 51 y (37 + p) = V (37 + p) := ud_ne (by omega)
    have a2 : upd V 51 y (16 + p) = V (16 + p) := ud_ne (by omega)
    have e : sp_called (upd V 51 y) c p = sp_called V c p := by unfold sp_called; rw [a1, a2, ec]
    unfold sp_gets
    rw [h1 p hp, h2 p hp]
    simp only [e]
  have at1 : ∀ p, p < 7 → sp_at1 nc K (upd V 51 y) c p = sp_at1 nc K V c p := fun p hp => by
    unfold sp_at1; rw [gets p hp, ud_ne (by omega)]
  have in1 : ∀ p, p < 7 → sp_in1 nc K (upd V 51 y) c p = sp_in1 nc K V c p := fun p hp => by
    unfold sp_in1; rw [gets p hp, ud_ne (by omega)]
  have bk1 : ∀ p, p < 7 → sp_bk1 nc K (upd V 51 y) c p = sp_bk1 nc K V c p := fun p hp => by
    unfold sp_bk1; rw [h1 p hp, h2 p hp, ud_ne (by omega)]
  have out : ∀ p, p < 7 → sp_out ni nc K W (upd V 51 y) c p = sp_out ni nc K W V c p := fun p hp => by
    unfold sp_out; rw [in1 p hp, inn]
  have pay : ∀ n, n ≤ 7 → ∀ q, q < 7 → sp_pay nc np K (upd V 51 y) c n q = sp_pay nc np K V c n q := by
    intro n
    induction n with
    | zero => intro _ q hq; exact ud_ne (by omega)
    | succ n ih =>
      intro hn q hq
      have ih' := ih (by omega)
      have a := in1 n (by omega)
      unfold sp_pay
      rw [ow, a]
      by_cases hcond : ¬ sp_ow1 nc np K V c = -1 ∧ sp_in1 nc K V c n = nI c ∧ ¬ nI n = sp_ow1 nc np K V c
      · rw [if_pos hcond, if_pos hcond, upd_at, upd_at, upd_at, upd_at, upd_at, upd_at, ih' n (by omega), ih' q hq]
        by_cases hq2 : q = (sp_ow1 nc np K V c).toNatClampNeg
        · rw [if_pos hq2, if_pos hq2, ← hq2, ih' q hq]
        · rw [if_neg hq2, if_neg hq2]
      · rw [if_neg hcond, if_neg hcond]; exact ih' q hq
  funext i
  rw [upd_at]
  by_cases h51 : i = 51
  · rw [if_pos h51, h51, bl_lit hc, ud_at]
  · rw [if_neg h51]
    have hi : upd V 51 y i = V i := ud_ne h51
    have h52 : upd V 51 y 52 = V 52 := ud_ne (by decide)
    unfold sp_blow
    refine ite_congr rfl (fun _ => inn) (fun _ => ite_congr rfl (fun _ => up) (fun _ => ite_congr rfl (fun _ => ow) (fun _ => ite_congr rfl (fun _ => hi) (fun n16 => ite_congr rfl (fun l23 => ?_) (fun n23 => ite_congr rfl (fun l30 => ?_) (fun n30 => ite_congr rfl (fun _ => hi) (fun n37 => ite_congr rfl (fun l44 => ?_) (fun n44 => ite_congr rfl (fun l51 => pay np hnp _ (by omega)) (fun _ => ite_congr rfl (fun _ => by rw [h52]) (fun _ => hi))))))))))
    · unfold sp_at2; rw [out _ (by omega), at1 _ (by omega), inn]
    · unfold sp_in2; rw [out _ (by omega), in1 _ (by omega)]
    · unfold sp_bk2; rw [out _ (by omega), bk1 _ (by omega)]
end
/-- those who are not there are booked on nothing -/
def Junk (np : Nat) (V : Nat → Int32) : Prop := ∀ p, np ≤ p → p < 7 → V (37 + p) = -1
def Sub (l S : Nat) : Prop := ∀ b, l.testBit b = true → S.testBit b = true
def LI (ni nc np hb : Nat) (V : Nat → Int32) (l : Nat) : Prop := DayOK ni nc np hb V ∧ Junk np V ∧ V 51 = nI l ∧ l < 2 ^ ni
def lt_lit (nc np : Nat) (K V : Nat → Int32) (c : Nat) : Nat → Int32 := if sp_left nc np K V c = 0 then V else upd V 51 (V 51 ||| jo_shl 1 (V c))
theorem junk_lb {nc np c : Nat} {K V : Nat → Int32} (hc : c < 4) (hj : Junk np V) {p : Nat} (h1 : np ≤ p) (h2 : p < 7) : sp_lb nc K V c p = false := by
  unfold sp_lb
  rw [decide_eq_false]
  rintro ⟨⟨h, _⟩, _⟩
  rw [hj p h1 h2] at h
  exact nn_ne (by omega) h.symm
theorem junk_blow {ni nc np c : Nat} {K W V : Nat → Int32} (hc : c < 4) (hj : Junk np V) : Junk np (sp_blow ni nc np K W V c) := by
  intro p h1 h2
  rw [bl_bk hc h2]
  unfold sp_bk2 sp_bk1
  split
  · rfl
  · split
    · rfl
    · exact hj p h1 h2
theorem junk_upd {np : Nat} {V : Nat → Int32} (hj : Junk np V) (x : Int32) : Junk np (upd V 51 x) := fun p h1 h2 => by rw [ud_ne (by omega)]; exact hj p h1 h2
theorem ud_ud {V : Nat → Int32} {k : Nat} {x y : Int32} : upd (upd V k x) k y = upd V k y := by
  funext i
  rw [upd_at, upd_at, upd_at]
  split <;> rfl
theorem ud_id {V : Nat → Int32} {k : Nat} {x : Int32} (h : V k = x) : upd V k x = V := by
  funext i
  rw [upd_at]
  split
  · next e => rw [e, h]
  · rfl
theorem lt_step {ni nc np hb c l S : Nat} {K W V : Nat → Int32} (hR : RoadOK ni nc np K W) (hI : LI ni nc np hb V l) (hhb : hb < 2147483648) (hc : c < nc) : ∃ l', lt_lit nc np K V c = upd V 51 (nI l') ∧ l' < 2 ^ ni ∧ Sub l l' ∧ ∀ S, S < 2 ^ ni → Sub l S → (sp_left nc np K (upd V 51 (nI S)) c = 0 → Sub l' S ∧ sp_left nc np K (lt_lit nc np K V c) c = 0) ∧ (Sub l' S → sp_left nc np K (lt_lit nc np K V c) c = 0 → sp_left nc np K (upd V 51 (nI S)) c = 0 ∧ sp_blow ni nc np K W (upd V 51 (nI S)) c = upd (sp_blow ni nc np K W (lt_lit nc np K V c) c) 51 (nI S)) := by
  obtain ⟨hk, hj, h51, hl⟩ := hI
  have hnc := hR.2.1
  have hnp := hR.2.2.1
  have hni := ok_ni hR
  have h128 : ∀ x, x < 2 ^ ni → x < 128 := fun x hx => by
    have := Nat.pow_le_pow_right (show 0 < 2 by decide) hni
    omega
  obtain ⟨k, hk1, hk2⟩ := (hk.1 c hc).1
  have lb : ∀ x, x < 2 ^ ni → ∀ p, p < 7 → sp_lb nc K (upd V 51 (nI x)) c p = lt_lb nc K V c p (x.testBit k) := fun x hx p hp => by
    rw [lb_is hnc (by omega) hp, hk2]
    congr 1
    rw [Bool.eq_iff_iff, decide_eq_true_eq]
    exact bit_dec x (h128 x hx) k (by omega)
  have lf : ∀ x, x < 2 ^ ni → (sp_left nc np K (upd V 51 (nI x)) c = 0 ↔ ∀ p, p < np → lt_lb nc K V c p (x.testBit k) = false) := fun x hx => by
    rw [left_all hnp]
    exact ⟨fun h p hp => by rw [← lb x hx p (by omega)]; exact h p hp, fun h p hp => by rw [lb x hx p (by omega)]; exact h p hp⟩
  have eV : upd V 51 (nI l) = V := ud_id h51
  have bl : ∀ x y, sp_left nc np K (upd V 51 (nI x)) c = 0 → sp_left nc np K (upd V 51 (nI y)) c = 0 → sp_blow ni nc np K W (upd V 51 (nI y)) c = upd (sp_blow ni nc np K W (upd V 51 (nI x)) c) 51 (nI y) := fun x y h1 h2 => by
    have all : ∀ z, sp_left nc np K (upd V 51 (nI z)) c = 0 → ∀ p, p < 7 → sp_lb nc K (upd V 51 (nI z)) c p = false := fun z hz p hp => by
      by_cases hpn : p < np
      · exact (left_all hnp).mp hz p hpn
      · exact junk_lb (by omega) (junk_upd hj _) (by omega) hp
    have h := blow51 (ni := ni) (nc := nc) (np := np) (K := K) (W := W) (V := upd V 51 (nI x)) (c := c) (y := nI y) hnp (by omega) (all x h1) (by rw [ud_ud]; exact all y h2)
    rw [ud_ud] at h
    exact h
  have lfl : sp_left nc np K V c = 0 ↔ ∀ p, p < np → lt_lb nc K V c p (l.testBit k) = false := by
    have h := lf l hl
    rw [eV] at h; exact h
  by_cases h0 : sp_left nc np K V c = 0
  · have el : lt_lit nc np K V c = upd V 51 (nI l) := by unfold lt_lit; rw [if_pos h0, eV]
    refine ⟨l, el, hl, fun b h => h, fun S hS hsub => ⟨fun _ => ⟨hsub, by rw [el, eV]; exact h0⟩, fun _ _ => ?_⟩⟩
    have h2 : sp_left nc np K (upd V 51 (nI S)) c = 0 := by
      rw [lf S hS]
      intro p hp
      have hp0 := lfl.mp h0 p hp
      cases hb1 : l.testBit k with
      | true => rw [hsub k hb1]; rw [hb1] at hp0; exact hp0
      | false =>
        rw [hb1] at hp0
        cases hb2 : S.testBit k with
        | false => exact hp0
        | true =>
          cases hx : lt_lb nc K V c p true with
          | false => rfl
          | true => rw [lb_mono hk hhb hp hx] at hp0; cases hp0
    exact ⟨h2, by rw [el]; exact bl l S (by rw [eV]; exact h0) h2⟩
  · have h2k : 2 ^ k < 2 ^ ni := Nat.pow_lt_pow_right (by decide) hk1
    have hl' : l ||| 2 ^ k < 2 ^ ni := Nat.or_lt_two_pow hl h2k
    have el : lt_lit nc np K V c = upd V 51 (nI (l ||| 2 ^ k)) := by unfold lt_lit; rw [if_neg h0, h51, hk2, or_dec l (h128 l hl) k (by omega)]
    have tk : (l ||| 2 ^ k).testBit k = true := by rw [Nat.testBit_or, Nat.testBit_two_pow_self, Bool.or_true]
    refine ⟨l ||| 2 ^ k, el, hl', fun b h => by rw [Nat.testBit_or, h, Bool.true_or], fun S hS hsub => ⟨fun hS0 => ?_, fun hs2 hz => ?_⟩⟩
    · have hSk : S.testBit k = true := by
        cases hb2 : S.testBit k with
        | true => rfl
        | false =>
          exfalso
          apply h0
          rw [lfl]
          have hb1 : l.testBit k = false := by
            cases hb1 : l.testBit k with
            | false => rfl
            | true => rw [hsub k hb1] at hb2; cases hb2
          rw [hb1]
          have := (lf S hS).mp hS0
          rw [hb2] at this; exact this
      refine ⟨fun b h => ?_, ?_⟩
      · rw [Nat.testBit_or, Nat.testBit_two_pow] at h
        by_cases hb : k = b
        · rw [← hb]; exact hSk
        · rw [decide_eq_false hb, Bool.or_false] at h
          exact hsub b h
      · rw [el, lf _ hl', tk]
        have := (lf S hS).mp hS0
        rw [hSk] at this; exact this
    · have hSk := hs2 k tk
      have h2 : sp_left nc np K (upd V 51 (nI S)) c = 0 := by
        rw [lf S hS, hSk]
        rw [el, lf _ hl', tk] at hz; exact hz
      rw [el] at hz ⊢
      exact ⟨h2, bl _ S hz h2⟩
