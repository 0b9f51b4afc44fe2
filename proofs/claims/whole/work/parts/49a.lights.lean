section
variable (ni nc np : Nat) (K W : Nat → Int32)
def lt_rd (V : Nat → Int32) : Nat → (Nat → Int32)
  | 0 => V
  | c + 1 => sp_blow ni nc np K W (lt_lit nc np K (lt_rd V c) c) c
def lt_rds (V : Nat → Int32) : Nat → (Nat → Int32)
  | 0 => V
  | n + 1 => lt_rd ni nc np K W (lt_rds V n) nc
abbrev lt_ok (V : Nat → Int32) (c : Nat) : Prop := sp_left nc np K (lt_lit nc np K V c) c = 0
end
theorem lt_next {ni nc np hb c l : Nat} {K W V : Nat → Int32} (hR : RoadOK ni nc np K W) (hI : LI ni nc np hb V l) (hhb : hb < 2147483648) (hc : c < nc) {l' : Nat} (h1 : lt_lit nc np K V c = upd V 51 (nI l')) (h2 : l' < 2 ^ ni) : LI ni nc np (hb + 1) (sp_blow ni nc np K W (lt_lit nc np K V c) c) l' := by
  have hnc := hR.2.1
  rw [h1]
  exact ⟨blow_ok hR (light_ok hnc hR.2.2.1 hI.1 h2) hc, junk_blow (by omega) (junk_upd hI.2.1 _), by rw [bl_lit (by omega), ud_at], h2⟩
theorem lt_round {ni nc np hb l : Nat} {K W V : Nat → Int32} (hR : RoadOK ni nc np K W) (hI : LI ni nc np hb V l) (hhb : hb + 4 < 2147483648) : ∀ c, c ≤ nc → ∃ l', LI ni nc np (hb + c) (lt_rd ni nc np K W V c) l' ∧ Sub l l' ∧ ∀ S o, S < 2 ^ ni → Sub l S → ((∀ d, d < c → sp_left nc np K (sp_rd ni nc np K W (upd V 51 (nI S), o) d).1 d = 0) → Sub l' S ∧ ∀ d, d < c → lt_ok nc np K (lt_rd ni nc np K W V d) d) ∧ (Sub l' S → (∀ d, d < c → lt_ok nc np K (lt_rd ni nc np K W V d) d) → (∀ d, d < c → sp_left nc np K (sp_rd ni nc np K W (upd V 51 (nI S), o) d).1 d = 0) ∧ (sp_rd ni nc np K W (upd V 51 (nI S), o) c).1 = upd (lt_rd ni nc np K W V c) 51 (nI S))
  | 0, _ => ⟨l, hI, fun b h => h, fun S o hS hsub => ⟨fun _ => ⟨hsub, fun d hd => absurd hd (Nat.not_lt_zero d)⟩, fun _ _ => ⟨fun d hd => absurd hd (Nat.not_lt_zero d), rfl⟩⟩⟩
  | c + 1, hc => by
    have hnc := hR.2.1
    obtain ⟨l1, hI1, hs1, ih⟩ := lt_round hR hI hhb c (by omega)
    obtain ⟨l2, e2, h2, hs2, st⟩ := lt_step (S := 0) hR hI1 (by omega) (show c < nc by omega)
    refine ⟨l2, lt_next hR hI1 (by omega) (by omega) e2 h2, fun b h => hs2 b (hs1 b h), fun S o hS hsub => ⟨fun hall => ?_, fun hsub2 hok => ?_⟩⟩
    · obtain ⟨a1, a2⟩ := (ih S o hS hsub).1 (fun d hd => hall d (by omega))
      obtain ⟨b1, b2⟩ := (ih S o hS hsub).2 a1 a2
      have hc0 := hall c (by omega)
      rw [b2] at hc0
      obtain ⟨c1, c2⟩ := (st S hS a1).1 hc0
      refine ⟨c1, fun d hd => ?_⟩
      by_cases e : d = c
      · rw [e]; exact c2
      · exact a2 d (by omega)
    · have hs1S : Sub l1 S := fun b h => hsub2 b (hs2 b h)
      obtain ⟨b1, b2⟩ := (ih S o hS hsub).2 hs1S (fun d hd => hok d (by omega))
      obtain ⟨c1, c2⟩ := (st S hS hs1S).2 hsub2 (hok c (by omega))
      refine ⟨fun d hd => ?_, ?_⟩
      · by_cases e : d = c
        · rw [e, b2]; exact c1
        · exact b1 d (by omega)
      · show sp_blow ni nc np K W (sp_rd ni nc np K W (upd V 51 (nI S), o) c).1 c = _
        rw [b2, c2]; rfl
theorem lt_rounds {ni nc np hb l : Nat} {K W V : Nat → Int32} (hR : RoadOK ni nc np K W) (hI : LI ni nc np hb V l) (hhb : hb ≤ 100000) : ∀ n, n ≤ 100 → ∃ l', LI ni nc np (hb + n * nc) (lt_rds ni nc np K W V n) l' ∧ Sub l l' ∧ ∀ S o, S < 2 ^ ni → Sub l S → ((∀ i, i < n → ∀ d, d < nc → sp_left nc np K (sp_rd ni nc np K W (sp_rds ni nc np K W (upd V 51 (nI S), o) i) d).1 d = 0) → Sub l' S ∧ ∀ i, i < n → ∀ d, d < nc → lt_ok nc np K (lt_rd ni nc np K W (lt_rds ni nc np K W V i) d) d) ∧ (Sub l' S → (∀ i, i < n → ∀ d, d < nc → lt_ok nc np K (lt_rd ni nc np K W (lt_rds ni nc np K W V i) d) d) → (∀ i, i < n → ∀ d, d < nc → sp_left nc np K (sp_rd ni nc np K W (sp_rds ni nc np K W (upd V 51 (nI S), o) i) d).1 d = 0) ∧ (sp_rds ni nc np K W (upd V 51 (nI S), o) n).1 = upd (lt_rds ni nc np K W V n) 51 (nI S))
  | 0, _ => ⟨l, by rw [Nat.zero_mul]; exact hI, fun b h => h, fun S o hS hsub => ⟨fun _ => ⟨hsub, fun d hd => absurd hd (Nat.not_lt_zero d)⟩, fun _ _ => ⟨fun d hd => absurd hd (Nat.not_lt_zero d), rfl⟩⟩⟩
  | n + 1, hn => by
    have hnc := hR.2.1
    have hmul : n * nc ≤ 400 := Nat.le_trans (Nat.mul_le_mul (show n ≤ 100 by omega) hnc) (by decide)
    obtain ⟨l1, hI1, hs1, ih⟩ := lt_rounds hR hI hhb n (by omega)
    obtain ⟨l2, hI2, hs2, st⟩ := lt_round hR hI1 (by omega) nc (Nat.le_refl nc)
    have pr : ∀ S o, (sp_rds ni nc np K W (upd V 51 (nI S), o) n).1 = upd (lt_rds ni nc np K W V n) 51 (nI S) → sp_rds ni nc np K W (upd V 51 (nI S), o) n = (upd (lt_rds ni nc np K W V n) 51 (nI S), (sp_rds ni nc np K W (upd V 51 (nI S), o) n).2) := fun S o h => by rw [← h]
    refine ⟨l2, by rw [Nat.succ_mul, ← Nat.add_assoc]; exact hI2, fun b h => hs2 b (hs1 b h), fun S o hS hsub => ⟨fun hall => ?_, fun hsub2 hok => ?_⟩⟩
    · obtain ⟨a1, a2⟩ := (ih S o hS hsub).1 (fun i hi => hall i (by omega))
      obtain ⟨b1, b2⟩ := (ih S o hS hsub).2 a1 a2
      have hc0 := hall n (by omega)
      rw [pr S o b2] at hc0
      obtain ⟨c1, c2⟩ := (st S _ hS a1).1 hc0
      refine ⟨c1, fun i hi => ?_⟩
      by_cases e : i = n
      · rw [e]; exact c2
      · exact a2 i (by omega)
    · have hs1S : Sub l1 S := fun b h => hsub2 b (hs2 b h)
      obtain ⟨b1, b2⟩ := (ih S o hS hsub).2 hs1S (fun i hi => hok i (by omega))
      obtain ⟨c1, c2⟩ := (st S (sp_rds ni nc np K W (upd V 51 (nI S), o) n).2 hS hs1S).2 hsub2 (hok n (by omega))
      refine ⟨fun i hi => ?_, ?_⟩
      · by_cases e : i = n
        · rw [e, pr S o b2]; exact c1
        · exact b1 i (by omega)
      · show (sp_rd ni nc np K W (sp_rds ni nc np K W (upd V 51 (nI S), o) n) nc).1 = _
        rw [pr S o b2, c2]; rfl
/-- the day with those who are not there booked on nothing -/
def sp_nm (np : Nat) (V : Nat → Int32) : Nat → Int32 := fun i => if 37 + np ≤ i ∧ i < 44 then -1 else V i
theorem nm_ne {np i : Nat} {V : Nat → Int32} (h : ¬ (37 + np ≤ i ∧ i < 44)) : sp_nm np V i = V i := if_neg h
theorem XD.nm {f : Nat → Nat → Int32} {d nc np : Nat} {V : Nat → Int32} (hnc : nc ≤ 4) (hnp : np ≤ 7) (h : XD f d nc np V) : XD f d nc np (sp_nm np V) := by
  refine ⟨fun c hc => ?_, fun p hp => ?_, ?_, ?_⟩
  · rw [nm_ne (by omega), nm_ne (by omega), nm_ne (by omega), nm_ne (by omega)]; exact h.1 c hc
  · rw [nm_ne (by omega), nm_ne (by omega), nm_ne (by omega), nm_ne (by omega), nm_ne (by omega)]; exact h.2.1 p hp
  · rw [nm_ne (by omega)]; exact h.2.2.1
  · rw [nm_ne (by omega)]; exact h.2.2.2
theorem MD.nm {g : Nat → Int32} {nc np : Nat} {V : Nat → Int32} (hnc : nc ≤ 4) (hnp : np ≤ 7) (h : MD g nc np V) : MD g nc np (sp_nm np V) := by
  refine ⟨fun c hc => ?_, fun p hp => ?_, ?_, ?_⟩
  · rw [nm_ne (by omega), nm_ne (by omega), nm_ne (by omega), nm_ne (by omega)]; exact h.1 c hc
  · rw [nm_ne (by omega), nm_ne (by omega), nm_ne (by omega), nm_ne (by omega), nm_ne (by omega)]; exact h.2.1 p hp
  · rw [nm_ne (by omega)]; exact h.2.2.1
  · rw [nm_ne (by omega)]; exact h.2.2.2
theorem DayOK.nm {ni nc np hb : Nat} {V : Nat → Int32} (hnc : nc ≤ 4) (hnp : np ≤ 7) (h : DayOK ni nc np hb V) : DayOK ni nc np hb (sp_nm np V) := by
  refine ⟨fun c hc => ?_, fun p hp => ?_, ?_, ?_⟩
  · rw [nm_ne (by omega), nm_ne (by omega), nm_ne (by omega), nm_ne (by omega)]; exact h.1 c hc
  · rw [nm_ne (by omega), nm_ne (by omega), nm_ne (by omega), nm_ne (by omega)]; exact h.2.1 p hp
  · rw [nm_ne (by omega)]; exact h.2.2.1
  · rw [nm_ne (by omega)]; exact h.2.2.2
theorem junk_nm {np : Nat} (V : Nat → Int32) : Junk np (sp_nm np V) := fun p h1 h2 => if_pos ⟨by omega, by omega⟩
theorem bits_mono : ∀ a, a < 128 → ∀ b, b < 128 → a &&& b = a → ¬ sp_bits (nI b) 7 < sp_bits (nI a) 7 := by decide +kernel
theorem sub_and {a b : Nat} (h : Sub a b) : a &&& b = a := by
  apply Nat.eq_of_testBit_eq
  intro i
  rw [Nat.testBit_and]
  cases h1 : a.testBit i with
  | false => rfl
  | true => rw [h i h1]; rfl
theorem sub_le {a b : Nat} (h : Sub a b) : a ≤ b := by
  have := sub_and h
  rw [← this]
  exact Nat.and_le_right
theorem rl_zero {ni nc np : Nat} {K W : Nat → Int32} {s : sp_S} : ∀ c, sp_rl ni nc np K W s c = 0 ↔ ∀ d, d < c → sp_left nc np K (sp_rd ni nc np K W s d).1 d = 0
  | 0 => ⟨fun _ d hd => absurd hd (Nat.not_lt_zero d), fun _ => rfl⟩
  | c + 1 => by
    show (sp_rl ni nc np K W s c ||| sp_left nc np K (sp_rd ni nc np K W s c).1 c) = 0 ↔ _
    rw [Int32.or_eq_zero_iff, rl_zero c]
    constructor
    · rintro ⟨h1, h2⟩ d hd
      by_cases e : d = c
      · rw [e]; exact h2
      · exact h1 d (by omega)
    · intro h
      exact ⟨fun d hd => h d (by omega), h c (by omega)⟩
