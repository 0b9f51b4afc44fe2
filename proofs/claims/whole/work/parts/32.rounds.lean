/-! a day that can be stays one -/
theorem inn1_ok {ni : Nat} {V : Nat → Int32} {c k : Nat} (hni : 2 ≤ ni ∧ ni ≤ 7) (hk : k < ni) (ek : V c = nI k) (hu : V (4 + c) = 0 ∨ V (4 + c) = 1) : (∃ k', k' < ni ∧ sp_inn1 ni V c = nI k') ∧ (sp_up1 ni V c = 0 ∨ sp_up1 ni V c = 1) := by
  have c01 : ¬ (0 : Int32) = 1 := by decide
  have heq : nI k = nI (ni - 1) ↔ k = ni - 1 := nn_inj (by omega) (by omega)
  have heq0 : nI k = 0 ↔ k = 0 := by rw [show (0 : Int32) = nI 0 from rfl, nn_inj (by omega) (by omega)]
  have hm : ∀ m, 0 < m → nI m + -1 = nI (m - 1) := fun m hm => by rw [← Int32.sub_eq_add_neg]; exact nn_sub (b := 1) hm
  rcases hu with hu | hu
  · by_cases h0 : k = 0
    · simp only [sp_inn1, sp_up1, hu, ek, c01, if_false, heq0.mpr h0, if_true]
      exact ⟨⟨1, by omega, rfl⟩, Or.inr trivial⟩
    · simp only [sp_inn1, sp_up1, hu, ek, c01, if_false, mt heq0.mp h0]
      exact ⟨⟨k - 1, by omega, hm k (by omega)⟩, Or.inl trivial⟩
  · by_cases h0 : k = ni - 1
    · simp only [sp_inn1, sp_up1, hu, ek, heq.mpr h0, if_true, c01, if_false]
      exact ⟨⟨ni - 1 - 1, by omega, hm (ni - 1) (by omega)⟩, Or.inl trivial⟩
    · simp only [sp_inn1, sp_up1, hu, ek, mt heq.mp h0, if_true, if_false]
      exact ⟨⟨k + 1, by omega, nn_add k 1⟩, Or.inr trivial⟩
theorem blow_ok {ni nc np hb : Nat} {K W V : Nat → Int32} (ho : RoadOK ni nc np K W) (hk : DayOK ni nc np hb V) {c : Nat} (hc : c < nc) : DayOK ni nc np (hb + 1) (sp_blow ni nc np K W V c) := by
  have hnp := ho.2.2.1
  have hnc := ho.2.1
  have hc4 : c < 4 := by omega
  have hni : 2 ≤ ni ∧ ni ≤ 7 := by
    rcases ho.1 with h | h
    · omega
    · exact h
  obtain ⟨k, hk1, ek⟩ := (hk.1 c hc).1
  have hin := inn1_ok hni hk1 ek (hk.1 c hc).2.1
  refine ⟨fun x hx => ?_, fun p hp => ?_, ?_, ?_⟩
  · have hx4 : x < 4 := by omega
    rw [bl_inn hc4 hx4, bl_up hc4 hx4, bl_wait hc4 hx4, bl_own hc4 hx4]
    by_cases hxc : x = c
    · subst hxc
      rw [if_pos rfl, if_pos rfl, if_pos rfl]
      exact ⟨hin.1, hin.2, (hk.1 x hx).2.2.1, ow1_ok hk hc⟩
    · rw [if_neg hxc, if_neg hxc, if_neg hxc]
      exact hk.1 x hx
  · have hp7 : p < 7 := by omega
    rw [bl_at hc4 hp7, bl_in hc4 hp7, bl_slow hc4 hp7, bl_bk hc4 hp7]
    have hkp := hk.2.1 p hp
    refine ⟨?_, hkp.2.1, ?_⟩
    · by_cases hout : sp_out ni nc K W V c p = true
      · simp only [sp_at2, sp_in2, hout, if_true]
        exact Or.inl ⟨trivial, hin.1⟩
      · have hout' : sp_out ni nc K W V c p = false := by simpa using hout
        simp only [sp_at2, sp_in2, hout', Bool.false_eq_true, if_false]
        by_cases hg : sp_gets nc K V c p = true
        · simp only [sp_at1, sp_in1, hg, if_true]
          exact Or.inr ⟨trivial, c, hc, rfl⟩
        · have hg' : sp_gets nc K V c p = false := by simpa using hg
          simp only [sp_at1, sp_in1, hg', Bool.false_eq_true, if_false]
          exact hkp.1
    · by_cases hout : sp_out ni nc K W V c p = true
      · simp only [sp_bk2, hout, if_true]; exact Or.inl trivial
      · have hout' : sp_out ni nc K W V c p = false := by simpa using hout
        simp only [sp_bk2, hout', Bool.false_eq_true, if_false]
        by_cases hl : sp_lb nc K V c p = true
        · simp only [sp_bk1, hl, if_true]; exact Or.inl trivial
        · have hl' : sp_lb nc K V c p = false := by simpa using hl
          simp only [sp_bk1, hl', Bool.false_eq_true, if_false]; exact hkp.2.2
  · rw [bl_lit hc4]; exact hk.2.2.1
  · rw [bl_hn hc4]
    obtain ⟨h, hh, eh⟩ := hk.2.2.2
    exact ⟨h + 1, by omega, by rw [eh]; exact nn_add h 1⟩
theorem DayOK.mono {ni nc np hb hb' : Nat} {V : Nat → Int32} (h : DayOK ni nc np hb V) (hle : hb ≤ hb') : DayOK ni nc np hb' V := by
  obtain ⟨h1, h2, h3, x, hx, ex⟩ := h
  exact ⟨h1, h2, h3, x, by omega, ex⟩
/-! THE BOOK OF LEFTS as a list of entries, the oldest first: horn, coach, inn, new owner, the one ahead and 1 -/
abbrev sp_E : Type := Nat × Nat × Nat × Nat × Nat
def EntOK (e : sp_E) : Prop := e.1 ≤ 100000 ∧ e.2.1 < 4 ∧ e.2.2.1 < 8 ∧ e.2.2.2.1 < 8 ∧ e.2.2.2.2 < 8
def ent_n (e : sp_E) : Nat := 2048 * e.1 + 512 * e.2.1 + 64 * e.2.2.1 + 8 * e.2.2.2.1 + e.2.2.2.2
/-- the model's book -/
def MB (g : Nat → Int32) (B : List sp_E) : Prop := B.length ≤ 20 ∧ g 53 = nI B.length ∧ (∀ j e, B[j]? = some e → g (54 + j) = nI (ent_n e)) ∧ ∀ e ∈ B, EntOK e
/-- the class's book -/
def XB (f : Nat → Nat → Int32) (d : Nat) (B : List sp_E) : Prop := ∃ k, BookOK f d B.length k ∧ ∀ j e, B[j]? = some e → f (d + 11) (5 * ((k + 20 - B.length + j) % 20)) = nI e.1 ∧ f (d + 11) (5 * ((k + 20 - B.length + j) % 20) + 1) = nI e.2.1 ∧ f (d + 11) (5 * ((k + 20 - B.length + j) % 20) + 2) = nI e.2.2.1 ∧ f (d + 11) (5 * ((k + 20 - B.length + j) % 20) + 3) = nI e.2.2.2.1 ∧ f (d + 11) (5 * ((k + 20 - B.length + j) % 20) + 4) = nI e.2.2.2.2 - 1
def sp_push (B : List sp_E) (e : sp_E) : List sp_E := (if B.length < 20 then B else B.drop 1) ++ [e]
theorem push_len {B : List sp_E} {e : sp_E} (h : B.length ≤ 20) : (sp_push B e).length = min (B.length + 1) 20 := by
  unfold sp_push
  split
  · rw [List.length_append]; simp; omega
  · rw [List.length_append, List.length_drop]; simp; omega
theorem push_get {B : List sp_E} {e : sp_E} (h : B.length ≤ 20) (j : Nat) : (sp_push B e)[j]? = if B.length < 20 then (if j < B.length then B[j]? else if j = B.length then some e else none) else (if j < 19 then B[j + 1]? else if j = 19 then some e else none) := by
  unfold sp_push
  by_cases hl : B.length < 20
  · rw [if_pos hl, if_pos hl]
    by_cases hj : j < B.length
    · rw [if_pos hj, List.getElem?_append_left hj]
    · rw [if_neg hj, List.getElem?_append_right (by omega)]
      by_cases hjj : j = B.length
      · subst hjj; simp
      · rw [if_neg hjj, List.getElem?_eq_none]; simp; omega
  · rw [if_neg hl, if_neg hl]
    have hd : (B.drop 1).length = 19 := by rw [List.length_drop]; omega
    by_cases hj : j < 19
    · rw [if_pos hj, List.getElem?_append_left (by omega), List.getElem?_drop, Nat.add_comm]
    · rw [if_neg hj, List.getElem?_append_right (by omega), hd]
      by_cases hjj : j = 19
      · subst hjj; simp
      · rw [if_neg hjj, List.getElem?_eq_none]; simp; omega
/-- the entry that a horn makes -/
def sp_entry (nc np : Nat) (K V : Nat → Int32) (c : Nat) : sp_E := ((V 52).toNatClampNeg, c, (V c).toNatClampNeg, (sp_ow1 nc np K V c).toNatClampNeg, (V (12 + c) + 1).toNatClampNeg)
theorem entry_ok {ni nc np hb : Nat} {K W V : Nat → Int32} (ho : RoadOK ni nc np K W) (hk : DayOK ni nc np hb V) (hhb : hb ≤ 100000) {c : Nat} (hc : c < nc) (hleft : ¬ sp_left nc np K V c = 0) : EntOK (sp_entry nc np K V c) ∧ sp_ent V c (sp_ow1 nc np K V c) = nI (ent_n (sp_entry nc np K V c)) ∧ V 52 = nI (sp_entry nc np K V c).1 ∧ V c = nI (sp_entry nc np K V c).2.2.1 ∧ sp_ow1 nc np K V c = nI (sp_entry nc np K V c).2.2.2.1 ∧ V (12 + c) = nI (sp_entry nc np K V c).2.2.2.2 - 1 := by
  have hnp := ho.2.2.1
  have hnc := ho.2.1
  have hni := ok_ni ho
  obtain ⟨h, hh, eh⟩ := hk.2.2.2
  obtain ⟨k, hk1, ek⟩ := (hk.1 c hc).1
  obtain ⟨q, hq, eq⟩ : ∃ q, q < np ∧ sp_ow1 nc np K V c = nI q := by
    unfold sp_ow1
    cases hb : sp_best nc K V (sp_lb nc K V c) np with
    | none => exact absurd ((left0 hnp).mpr hb) hleft
    | some q => exact ⟨q, (best_lt hb).1, rfl⟩
  obtain ⟨a, ha, ea⟩ : ∃ a, a < 8 ∧ V (12 + c) = nI a - 1 := by
    rcases (hk.1 c hc).2.2.2 with h1 | ⟨q', hq', eq'⟩
    · exact ⟨0, by omega, by rw [h1]; rfl⟩
    · exact ⟨q' + 1, by omega, by rw [eq']; exact (nn_sub (a := q' + 1) (b := 1) (by omega)).symm⟩
  have ea1 : V (12 + c) + 1 = nI a := by rw [ea, Int32.sub_add_cancel]
  have e1 : sp_entry nc np K V c = (h, c, k, q, a) := by
    unfold sp_entry
    rw [eh, ek, eq, ea1, nn_clamp (by omega), nn_clamp (by omega), nn_clamp (by omega), nn_clamp (by omega)]
  rw [e1]
  refine ⟨⟨show h ≤ 100000 by omega, show c < 4 by omega, show k < 8 by omega, show q < 8 by omega, ha⟩, ?_, eh, ek, eq, ea⟩
  unfold sp_ent ent_n
  rw [eh, ek, eq, Int32.add_assoc _ (V (12 + c)) 1, ea1, show (2048 : Int32) = nI 2048 from rfl, show (512 : Int32) = nI 512 from rfl, show (64 : Int32) = nI 64 from rfl, show (8 : Int32) = nI 8 from rfl, nn_mul, nn_mul, nn_mul, nn_mul, nn_add, nn_add, nn_add, nn_add]
/-- the book behind a horn -/
def sp_bk (nc np : Nat) (K V : Nat → Int32) (c : Nat) (B : List sp_E) : List sp_E := if sp_left nc np K V c = 0 then B else sp_push B (sp_entry nc np K V c)
theorem MB.step {ni nc np hb : Nat} {K W V : Nat → Int32} (ho : RoadOK ni nc np K W) (hk : DayOK ni nc np hb V) (hhb : hb ≤ 100000) {c : Nat} (hc : c < nc) {g g' : Nat → Int32} {B : List sp_E} (hB : MB g B) (h : if sp_left nc np K V c = 0 then ∀ j, 53 ≤ j → g' j = g j else if B.length < 20 then g' 53 = nI (B.length + 1) ∧ g' (54 + B.length) = sp_ent V c (sp_ow1 nc np K V c) ∧ ∀ j, 53 < j → j ≠ 54 + B.length → g' j = g j else g' 53 = nI 20 ∧ g' 73 = sp_ent V c (sp_ow1 nc np K V c) ∧ ∀ j, j < 19 → g' (54 + j) = g (55 + j)) : MB g' (sp_bk nc np K V c B) := by
  obtain ⟨h1, h2, h3, h4⟩ := hB
  by_cases h0 : sp_left nc np K V c = 0
  · rw [if_pos h0] at h
    unfold sp_bk
    rw [if_pos h0]
    exact ⟨h1, (h 53 (by omega)).trans h2, fun j e he => (h _ (by omega)).trans (h3 j e he), h4⟩
  · obtain ⟨he1, he2, -⟩ := entry_ok ho hk hhb hc h0
    rw [if_neg h0] at h
    unfold sp_bk
    rw [if_neg h0]
    refine ⟨by rw [push_len h1]; omega, ?_, ?_, ?_⟩
    · rw [push_len h1]
      by_cases hl : B.length < 20
      · rw [if_pos hl] at h; rw [h.1]; congr 1; omega
      · rw [if_neg hl] at h; rw [h.1]; congr 1; omega
    · intro j e hj
      rw [push_get h1] at hj
      by_cases hl : B.length < 20
      · rw [if_pos hl] at h hj
        by_cases hjl : j < B.length
        · rw [if_pos hjl] at hj
          rw [h.2.2 _ (by omega) (by omega)]; exact h3 j e hj
        · rw [if_neg hjl] at hj
          by_cases hje : j = B.length
          · rw [if_pos hje] at hj
            cases hj
            rw [hje, h.2.1, he2]
          · rw [if_neg hje] at hj; cases hj
      · rw [if_neg hl] at h hj
        by_cases hjl : j < 19
        · rw [if_pos hjl] at hj
          rw [h.2.2 j hjl, show 55 + j = 54 + (j + 1) by omega]; exact h3 (j + 1) e hj
        · rw [if_neg hjl] at hj
          by_cases hje : j = 19
          · rw [if_pos hje] at hj
            cases hj
            rw [hje, h.2.1, he2]
          · rw [if_neg hje] at hj; cases hj
    · intro e he
      unfold sp_push at he
      rcases List.mem_append.mp he with h5 | h5
      · split at h5
        · exact h4 e h5
        · exact h4 e (List.mem_of_mem_drop h5)
      · rw [List.mem_singleton.mp h5]; exact he1
theorem XB.step {ni nc np hb : Nat} {K W V : Nat → Int32} (ho : RoadOK ni nc np K W) (hk : DayOK ni nc np hb V) (hhb : hb ≤ 100000) {c : Nat} (hc : c < nc) {f f' : Nat → Nat → Int32} {d k : Nat} {B : List sp_E} (hb1 : BookOK f d B.length k) (hB : ∀ j e, B[j]? = some e → f (d + 11) (5 * ((k + 20 - B.length + j) % 20)) = nI e.1 ∧ f (d + 11) (5 * ((k + 20 - B.length + j) % 20) + 1) = nI e.2.1 ∧ f (d + 11) (5 * ((k + 20 - B.length + j) % 20) + 2) = nI e.2.2.1 ∧ f (d + 11) (5 * ((k + 20 - B.length + j) % 20) + 3) = nI e.2.2.2.1 ∧ f (d + 11) (5 * ((k + 20 - B.length + j) % 20) + 4) = nI e.2.2.2.2 - 1) (h : if sp_left nc np K V c = 0 then BookOK f' d B.length k ∧ f' (d + 11) = f (d + 11) else BookOK f' d (min (B.length + 1) 20) ((k + 1) % 20) ∧ ∀ x, f' (d + 11) x = if x = 5 * k then V 52 else if x = 5 * k + 1 then nI c else if x = 5 * k + 2 then V c else if x = 5 * k + 3 then sp_ow1 nc np K V c else if x = 5 * k + 4 then V (12 + c) else f (d + 11) x) : XB f' d (sp_bk nc np K V c B) := by
  have hlen : B.length ≤ 20 := hb1.1
  have hk20 : k < 20 := hb1.2.1
  by_cases h0 : sp_left nc np K V c = 0
  · rw [if_pos h0] at h
    unfold sp_bk
    rw [if_pos h0]
    refine ⟨k, h.1, ?_⟩
    rw [h.2]; exact hB
  · obtain ⟨-, -, v52, vc, vo, va⟩ := entry_ok ho hk hhb hc h0
    rw [if_neg h0] at h
    obtain ⟨h1, h2⟩ := h
    unfold sp_bk
    rw [if_neg h0]
    have hpl : (sp_push B (sp_entry nc np K V c)).length = min (B.length + 1) 20 := push_len hlen
    refine ⟨(k + 1) % 20, by rw [hpl]; exact h1, ?_⟩
    rw [hpl]
    have hnew : ∀ r, r = k → f' (d + 11) (5 * r) = nI (sp_entry nc np K V c).1 ∧ f' (d + 11) (5 * r + 1) = nI (sp_entry nc np K V c).2.1 ∧ f' (d + 11) (5 * r + 2) = nI (sp_entry nc np K V c).2.2.1 ∧ f' (d + 11) (5 * r + 3) = nI (sp_entry nc np K V c).2.2.2.1 ∧ f' (d + 11) (5 * r + 4) = nI (sp_entry nc np K V c).2.2.2.2 - 1 := by
      intro r hr
      subst hr
      rw [h2, h2, h2, h2, h2, if_pos rfl, if_neg (by omega), if_pos rfl, if_neg (by omega), if_neg (by omega), if_pos rfl, if_neg (by omega), if_neg (by omega), if_neg (by omega), if_pos rfl, if_neg (by omega), if_neg (by omega), if_neg (by omega), if_neg (by omega), if_pos rfl]
      exact ⟨v52, rfl, vc, vo, va⟩
    have hold : ∀ r, r ≠ k → ∀ z, z < 5 → f' (d + 11) (5 * r + z) = f (d + 11) (5 * r + z) := by
      intro r hr z hz
      rw [h2, if_neg (by omega), if_neg (by omega), if_neg (by omega), if_neg (by omega), if_neg (by omega)]
    intro j e hj
    rw [push_get hlen] at hj
    by_cases hl : B.length < 20
    · rw [if_pos hl] at hj
      have hmin : min (B.length + 1) 20 = B.length + 1 := by omega
      rw [hmin]
      by_cases hjl : j < B.length
      · rw [if_pos hjl] at hj
        have hr : ((k + 1) % 20 + 20 - (B.length + 1) + j) % 20 = (k + 20 - B.length + j) % 20 := by omega
        have hne : (k + 20 - B.length + j) % 20 ≠ k := by omega
        rw [hr]
        have h5 := hB j e hj
        have h6 := hold _ hne
        exact ⟨(h6 0 (by omega)).trans h5.1, (h6 1 (by omega)).trans h5.2.1, (h6 2 (by omega)).trans h5.2.2.1, (h6 3 (by omega)).trans h5.2.2.2.1, (h6 4 (by omega)).trans h5.2.2.2.2⟩
      · rw [if_neg hjl] at hj
        by_cases hje : j = B.length
        · rw [if_pos hje] at hj
          cases hj
          exact hnew _ (by omega)
        · rw [if_neg hje] at hj; cases hj
    · rw [if_neg hl] at hj
      have hl20 : B.length = 20 := by omega
      have hmin : min (B.length + 1) 20 = 20 := by omega
      rw [hmin]
      by_cases hjl : j < 19
      · rw [if_pos hjl] at hj
        have hr : ((k + 1) % 20 + 20 - 20 + j) % 20 = (k + 20 - B.length + (j + 1)) % 20 := by omega
        have hne : (k + 20 - B.length + (j + 1)) % 20 ≠ k := by omega
        rw [hr]
        have h5 := hB (j + 1) e hj
        have h6 := hold _ hne
        exact ⟨(h6 0 (by omega)).trans h5.1, (h6 1 (by omega)).trans h5.2.1, (h6 2 (by omega)).trans h5.2.2.1, (h6 3 (by omega)).trans h5.2.2.2.1, (h6 4 (by omega)).trans h5.2.2.2.2⟩
      · rw [if_neg hjl] at hj
        by_cases hje : j = 19
        · rw [if_pos hje] at hj
          cases hj
          exact hnew _ (by omega)
        · rw [if_neg hje] at hj; cases hj
