/-! what is read is well told -/
section
variable {t : Nat → Nat} {n : Nat}
theorem num_ge {p lo hi : Nat} {x : Nat × Nat} (h : rd_num t n p lo hi = .inr x) : p ≤ x.2 := by
  unfold rd_num at h
  split at h
  · cases h
  · split at h
    · cases h
    · cases h
      exact Nat.le_trans (sk_spec t).1 (fe_spec t).1
theorem nx_ge {lo hi p' : Nat} {s : rd_R} (h : (rd_nx t n s lo hi).2 = .inr p') : ∃ p, s = .inr p ∧ p ≤ p' ∧ (p ≤ n → p' ≤ n) := by
  cases s with
  | inl e => cases h
  | inr p =>
    cases h2 : rd_num t n p lo hi with
    | inl e => rw [nx_l h2] at h; cases h
    | inr x =>
      rw [nx_r h2] at h
      cases h
      exact ⟨p, rfl, num_ge h2, (num_ok h2).2.2⟩
theorem bo_ge {nc p' : Nat} {s : rd_R} (h : (rd_bo t n nc s).2 = .inr p') : ∃ p, s = .inr p ∧ p ≤ p' ∧ (p ≤ n → p' ≤ n) ∧ ((rd_bo t n nc s).1 = -1 ∨ ∃ c, c < nc ∧ (rd_bo t n nc s).1 = nI c) := by
  cases s with
  | inl e => cases h
  | inr p =>
    cases h2 : rd_num t n p 0 9 with
    | inl e =>
      have eb : rd_bo t n nc (.inr p) = (0, .inl e) := by unfold rd_bo; simp only [h2]
      rw [eb] at h; cases h
    | inr x =>
      have eb : rd_bo t n nc (.inr p) = if x.1 = 9 then (-1, .inr x.2) else if nc ≤ x.1 then (nI x.1, .inl (2, rd_sk t n p)) else (nI x.1, .inr x.2) := by unfold rd_bo; simp only [h2]
      rw [eb] at h ⊢
      by_cases h9 : x.1 = 9
      · rw [if_pos h9] at h ⊢
        cases h
        exact ⟨p, rfl, num_ge h2, (num_ok h2).2.2, Or.inl rfl⟩
      · rw [if_neg h9] at h ⊢
        by_cases hc : nc ≤ x.1
        · rw [if_pos hc] at h; cases h
        · rw [if_neg hc] at h ⊢
          cases h
          exact ⟨p, rfl, num_ge h2, (num_ok h2).2.2, Or.inr ⟨x.1, by omega, rfl⟩⟩
theorem en_ge {p' : Nat} {s : rd_R} (h : rd_en t n s = .inr p') : ∃ p, s = .inr p ∧ p < p' ∧ p' ≤ n := by
  cases s with
  | inl e => cases h
  | inr p =>
    unfold rd_en at h
    split at h
    · next e => cases e
    · next q e =>
      cases e
      split at h
      · next h2 =>
        cases h
        have := (sk_spec t (n := n) (p := p)).1
        exact ⟨p, rfl, by omega, by omega⟩
      · cases h
def rd_one (t : Nat → Nat) (n : Nat) (A : rd_A) (p : Nat) : rd_A × rd_R :=
  if t p = 108 then (if 0 < ra_ni A then (A, .inl (3, p)) else ((rd_cl t n A (.inr (p + 1))).1, rd_en t n (rd_cl t n A (.inr (p + 1))).2))
  else if ra_ni A = 0 then (A, .inl (1, p))
  else if t p = 99 then (if 4 ≤ ra_nc A then (A, .inl (3, p)) else ((rd_cc t n A (.inr (p + 1))).1, rd_en t n (rd_cc t n A (.inr (p + 1))).2))
  else if t p = 112 then (if 7 ≤ ra_np A then (A, .inl (3, p)) else ((rd_cp t n A (.inr (p + 1))).1, rd_en t n (rd_cp t n A (.inr (p + 1))).2))
  else (A, .inl (1, p))
theorem cl_ok {A : rd_A} (hA : AOK A) (h0 : ra_ni A = 0) {s : rd_R} {p' : Nat} (h : (rd_cl t n A s).2 = .inr p') : AOK (rd_cl t n A s).1 ∧ ∃ p, s = .inr p ∧ p ≤ p' ∧ (p ≤ n → p' ≤ n) := by
  obtain ⟨h1, h2, h3⟩ := hA
  have hz : ra_nc A = 0 ∧ ra_np A = 0 := by rcases h1.1 with h | h <;> omega
  obtain ⟨p1, e1, l1, n1⟩ := nx_ge h
  obtain ⟨p0, e0, l0, n0⟩ := nx_ge e1
  have b1 := nx_in h
  have b0 := nx_in e1
  have hpp : 0 < 2 ^ (rd_nx t n s 2 7).1 := Nat.pow_pos (by decide)
  refine ⟨?_, p0, e0, by omega, fun h => n1 (n0 h)⟩
  show RoadOK (rd_nx t n s 2 7).1 (ra_nc A) (ra_np A) (ra_K A) (ra_W A) ∧ DayOK (rd_nx t n s 2 7).1 (ra_nc A) (ra_np A) 0 (upd (ra_V A) 51 (nI (rd_nx t n (rd_nx t n s 2 7).2 0 (2 ^ (rd_nx t n s 2 7).1 - 1)).1)) ∧ ∀ p, p < 7 → upd (ra_V A) 51 (nI (rd_nx t n (rd_nx t n s 2 7).2 0 (2 ^ (rd_nx t n s 2 7).1 - 1)).1) (44 + p) = 0
  refine ⟨⟨Or.inr ⟨b0.1, b0.2⟩, h1.2.1, h1.2.2.1, fun p hp => ?_, fun p hp => ?_⟩, ⟨fun c hc => ?_, fun p hp => ?_, ⟨_, ?_, ud_at⟩, ?_⟩, fun p hp => ?_⟩
  · exact absurd (show p < ra_np A from hp) (by omega)
  · exact absurd (show p < ra_np A from hp) (by omega)
  · exact absurd (show c < ra_nc A from hc) (by omega)
  · exact absurd (show p < ra_np A from hp) (by omega)
  · omega
  · show ∃ h, h ≤ 0 ∧ upd (ra_V A) 51 _ 52 = nI h
    rw [ud_ne (by decide)]; exact h2.2.2.2
  · show upd (ra_V A) 51 _ (44 + p) = 0
    rw [ud_ne (by omega)]; exact h3 p hp
theorem cc_ok {A : rd_A} (hA : AOK A) (h0 : ¬ ra_ni A = 0) (hc4 : ra_nc A < 4) {s : rd_R} {p' : Nat} (h : (rd_cc t n A s).2 = .inr p') : AOK (rd_cc t n A s).1 ∧ ∃ p, s = .inr p ∧ p ≤ p' ∧ (p ≤ n → p' ≤ n) := by
  obtain ⟨h1, h2, h3⟩ := hA
  have hni : 2 ≤ ra_ni A ∧ ra_ni A ≤ 7 := by rcases h1.1 with h | h <;> omega
  have hnp := h1.2.2.1
  obtain ⟨p2, e2, l2, n2⟩ := nx_ge h
  obtain ⟨p1, e1, l1, n1⟩ := nx_ge e2
  obtain ⟨p0, e0, l0, n0⟩ := nx_ge e1
  have b2 := nx_in h
  have b1 := nx_in e2
  have b0 := nx_in e1
  refine ⟨?_, p0, e0, by omega, fun h => n2 (n1 (n0 h))⟩
  show RoadOK (ra_ni A) (ra_nc A + 1) (ra_np A) (ra_K A) (ra_W A) ∧ DayOK (ra_ni A) (ra_nc A + 1) (ra_np A) 0 (upd (upd (upd (upd (ra_V A) (ra_nc A) (nI (rd_nx t n s 0 (ra_ni A - 1)).1)) (4 + ra_nc A) (nI (rd_nx t n (rd_nx t n s 0 (ra_ni A - 1)).2 0 1).1)) (8 + ra_nc A) (nI (rd_nx t n (rd_nx t n (rd_nx t n s 0 (ra_ni A - 1)).2 0 1).2 0 30).1)) (12 + ra_nc A) (-1)) ∧ ∀ p, p < 7 → upd (upd (upd (upd (ra_V A) (ra_nc A) (nI (rd_nx t n s 0 (ra_ni A - 1)).1)) (4 + ra_nc A) (nI (rd_nx t n (rd_nx t n s 0 (ra_ni A - 1)).2 0 1).1)) (8 + ra_nc A) (nI (rd_nx t n (rd_nx t n (rd_nx t n s 0 (ra_ni A - 1)).2 0 1).2 0 30).1)) (12 + ra_nc A) (-1) (44 + p) = 0
  clear h
  generalize (rd_nx t n (rd_nx t n (rd_nx t n s 0 (ra_ni A - 1)).2 0 1).2 0 30).1 = v3 at b2 ⊢
  generalize (rd_nx t n (rd_nx t n s 0 (ra_ni A - 1)).2 0 1).1 = v2 at b1 ⊢
  generalize (rd_nx t n s 0 (ra_ni A - 1)).1 = v1 at b0 ⊢
  refine ⟨⟨Or.inr hni, hc4, hnp, h1.2.2.2.1, h1.2.2.2.2⟩, ⟨fun c hc => ?_, fun p hp => ?_, ?_, ?_⟩, fun p hp => ?_⟩
  · have hc' : c < ra_nc A + 1 := hc
    show (∃ k, k < ra_ni A ∧ upd (upd (upd (upd (ra_V A) (ra_nc A) (nI v1)) (4 + ra_nc A) (nI v2)) (8 + ra_nc A) (nI v3)) (12 + ra_nc A) (-1) c = nI k) ∧ (upd (upd (upd (upd (ra_V A) (ra_nc A) (nI v1)) (4 + ra_nc A) (nI v2)) (8 + ra_nc A) (nI v3)) (12 + ra_nc A) (-1) (4 + c) = 0 ∨ upd (upd (upd (upd (ra_V A) (ra_nc A) (nI v1)) (4 + ra_nc A) (nI v2)) (8 + ra_nc A) (nI v3)) (12 + ra_nc A) (-1) (4 + c) = 1) ∧ (∃ w, w ≤ 50 ∧ upd (upd (upd (upd (ra_V A) (ra_nc A) (nI v1)) (4 + ra_nc A) (nI v2)) (8 + ra_nc A) (nI v3)) (12 + ra_nc A) (-1) (8 + c) = nI w) ∧ (upd (upd (upd (upd (ra_V A) (ra_nc A) (nI v1)) (4 + ra_nc A) (nI v2)) (8 + ra_nc A) (nI v3)) (12 + ra_nc A) (-1) (12 + c) = -1 ∨ ∃ q, q < ra_np A ∧ upd (upd (upd (upd (ra_V A) (ra_nc A) (nI v1)) (4 + ra_nc A) (nI v2)) (8 + ra_nc A) (nI v3)) (12 + ra_nc A) (-1) (12 + c) = nI q)
    by_cases e : c = ra_nc A
    · rw [e]
      refine ⟨⟨v1, by omega, ?_⟩, ?_, ⟨v3, by omega, ?_⟩, Or.inl ud_at⟩
      · rw [ud_ne (by omega), ud_ne (by omega), ud_ne (by omega), ud_at]
      · rw [ud_ne (by omega), ud_ne (by omega), ud_at]
        have : v2 = 0 ∨ v2 = 1 := by omega
        rcases this with rfl | rfl
        · exact Or.inl rfl
        · exact Or.inr rfl
      · rw [ud_ne (by omega), ud_at]
    · have hd := h2.1 c (by omega)
      rw [ud_ne (show c ≠ 12 + ra_nc A by omega), ud_ne (show c ≠ 8 + ra_nc A by omega), ud_ne (show c ≠ 4 + ra_nc A by omega), ud_ne e, ud_ne (show 4 + c ≠ 12 + ra_nc A by omega), ud_ne (show 4 + c ≠ 8 + ra_nc A by omega), ud_ne (show 4 + c ≠ 4 + ra_nc A by omega), ud_ne (show 4 + c ≠ ra_nc A by omega), ud_ne (show 8 + c ≠ 12 + ra_nc A by omega), ud_ne (show 8 + c ≠ 8 + ra_nc A by omega), ud_ne (show 8 + c ≠ 4 + ra_nc A by omega), ud_ne (show 8 + c ≠ ra_nc A by omega), ud_ne (show 12 + c ≠ 12 + ra_nc A by omega), ud_ne (show 12 + c ≠ 8 + ra_nc A by omega), ud_ne (show 12 + c ≠ 4 + ra_nc A by omega), ud_ne (show 12 + c ≠ ra_nc A by omega)]
      exact hd
  · have hp' : p < ra_np A := hp
    have hd := h2.2.1 p hp'
    have far : ∀ k, 16 ≤ k → upd (upd (upd (upd (ra_V A) (ra_nc A) (nI v1)) (4 + ra_nc A) (nI v2)) (8 + ra_nc A) (nI v3)) (12 + ra_nc A) (-1) k = ra_V A k := fun k hk => by
      rw [ud_ne (by omega), ud_ne (by omega), ud_ne (by omega), ud_ne (by omega)]
    simp only [far (23 + p) (by omega), far (16 + p) (by omega), far (30 + p) (by omega), far (37 + p) (by omega)]
    obtain ⟨d1, d2, d3⟩ := hd
    refine ⟨?_, d2, ?_⟩
    · rcases d1 with h | ⟨h, c, hc, h'⟩
      · exact Or.inl h
      · exact Or.inr ⟨h, c, Nat.lt_succ_of_lt hc, h'⟩
    · rcases d3 with h | ⟨c, hc, h'⟩
      · exact Or.inl h
      · exact Or.inr ⟨c, Nat.lt_succ_of_lt hc, h'⟩
  · show ∃ l, l < 2 ^ ra_ni A ∧ upd (upd (upd (upd (ra_V A) _ _) _ _) _ _) _ _ 51 = nI l
    rw [ud_ne (by omega), ud_ne (by omega), ud_ne (by omega), ud_ne (by omega)]; exact h2.2.2.1
  · show ∃ h, h ≤ 0 ∧ upd (upd (upd (upd (ra_V A) _ _) _ _) _ _) _ _ 52 = nI h
    rw [ud_ne (by omega), ud_ne (by omega), ud_ne (by omega), ud_ne (by omega)]; exact h2.2.2.2
  · show upd (upd (upd (upd (ra_V A) _ _) _ _) _ _) _ _ (44 + p) = 0
    rw [ud_ne (by omega), ud_ne (by omega), ud_ne (by omega), ud_ne (by omega)]; exact h3 p hp
theorem cp_ok {A : rd_A} (hA : AOK A) (h0 : ¬ ra_ni A = 0) (hp7 : ra_np A < 7) {s : rd_R} {p' : Nat} (h : (rd_cp t n A s).2 = .inr p') : AOK (rd_cp t n A s).1 ∧ ∃ p, s = .inr p ∧ p ≤ p' ∧ (p ≤ n → p' ≤ n) := by
  obtain ⟨h1, h2, h3⟩ := hA
  have hni : 2 ≤ ra_ni A ∧ ra_ni A ≤ 7 := by rcases h1.1 with h | h <;> omega
  have hnc := h1.2.1
  obtain ⟨p4, e4, l4, n4, b4⟩ := bo_ge h
  obtain ⟨p3, e3, l3, n3⟩ := nx_ge e4
  obtain ⟨p2, e2, l2, n2⟩ := nx_ge e3
  obtain ⟨p1, e1, l1, n1⟩ := nx_ge e2
  obtain ⟨p0, e0, l0, n0⟩ := nx_ge e1
  have b3 := nx_in e4
  have b2 := nx_in e3
  have b1 := nx_in e2
  have b0 := nx_in e1
  refine ⟨?_, p0, e0, by omega, fun h => n4 (n3 (n2 (n1 (n0 h))))⟩
  show RoadOK (ra_ni A) (ra_nc A) (ra_np A + 1) (upd (ra_K A) (ra_np A) (nI (rd_nx t n s 0 3).1)) (upd (ra_W A) (ra_np A) (nI (rd_nx t n (rd_nx t n (rd_nx t n (rd_nx t n s 0 3).2 0 (ra_ni A - 1)).2 0 30).2 0 (ra_ni A - 1)).1)) ∧ DayOK (ra_ni A) (ra_nc A) (ra_np A + 1) 0 (upd (upd (upd (upd (ra_V A) (16 + ra_np A) (nI (rd_nx t n (rd_nx t n s 0 3).2 0 (ra_ni A - 1)).1)) (23 + ra_np A) (-1)) (30 + ra_np A) (nI (rd_nx t n (rd_nx t n (rd_nx t n s 0 3).2 0 (ra_ni A - 1)).2 0 30).1)) (37 + ra_np A) (rd_bo t n (ra_nc A) (rd_nx t n (rd_nx t n (rd_nx t n (rd_nx t n s 0 3).2 0 (ra_ni A - 1)).2 0 30).2 0 (ra_ni A - 1)).2).1) ∧ ∀ p, p < 7 → (upd (upd (upd (upd (ra_V A) (16 + ra_np A) (nI (rd_nx t n (rd_nx t n s 0 3).2 0 (ra_ni A - 1)).1)) (23 + ra_np A) (-1)) (30 + ra_np A) (nI (rd_nx t n (rd_nx t n (rd_nx t n s 0 3).2 0 (ra_ni A - 1)).2 0 30).1)) (37 + ra_np A) (rd_bo t n (ra_nc A) (rd_nx t n (rd_nx t n (rd_nx t n (rd_nx t n s 0 3).2 0 (ra_ni A - 1)).2 0 30).2 0 (ra_ni A - 1)).2).1) (44 + p) = 0
  generalize (rd_bo t n (ra_nc A) (rd_nx t n (rd_nx t n (rd_nx t n (rd_nx t n s 0 3).2 0 (ra_ni A - 1)).2 0 30).2 0 (ra_ni A - 1)).2).1 = v5 at b4 ⊢
  generalize (rd_nx t n (rd_nx t n (rd_nx t n (rd_nx t n s 0 3).2 0 (ra_ni A - 1)).2 0 30).2 0 (ra_ni A - 1)).1 = v4 at b3 ⊢
  generalize (rd_nx t n (rd_nx t n (rd_nx t n s 0 3).2 0 (ra_ni A - 1)).2 0 30).1 = v3 at b2 ⊢
  generalize (rd_nx t n (rd_nx t n s 0 3).2 0 (ra_ni A - 1)).1 = v2 at b1 ⊢
  generalize (rd_nx t n s 0 3).1 = v1 at b0 ⊢
  generalize hU : upd (upd (upd (upd (ra_V A) (16 + ra_np A) (nI v2)) (23 + ra_np A) (-1)) (30 + ra_np A) (nI v3)) (37 + ra_np A) v5 = U
  have far : ∀ k, (k < 16 ∨ 44 ≤ k) → U k = ra_V A k := fun k hk => by
    rw [← hU, ud_ne (by omega), ud_ne (by omega), ud_ne (by omega), ud_ne (by omega)]
  refine ⟨⟨Or.inr hni, hnc, hp7, fun p hp => ?_, fun p hp => ?_⟩, ⟨fun c hc => ?_, fun p hp => ?_, ?_, ?_⟩, fun p hp => ?_⟩
  · have hp' : p < ra_np A + 1 := hp
    show upd (ra_K A) (ra_np A) (nI v1) p = 0 ∨ upd (ra_K A) (ra_np A) (nI v1) p = 1 ∨ upd (ra_K A) (ra_np A) (nI v1) p = 2 ∨ upd (ra_K A) (ra_np A) (nI v1) p = 3
    by_cases e : p = ra_np A
    · rw [e, ud_at]; exact kind4 (by omega)
    · rw [ud_ne e]; exact h1.2.2.2.1 p (by omega)
  · have hp' : p < ra_np A + 1 := hp
    show ∃ k, k < ra_ni A ∧ upd (ra_W A) (ra_np A) (nI v4) p = nI k
    by_cases e : p = ra_np A
    · rw [e, ud_at]; exact ⟨v4, by omega, rfl⟩
    · rw [ud_ne e]; exact h1.2.2.2.2 p (by omega)
  · have hc' : c < ra_nc A := hc
    have hd := h2.1 c hc'
    simp only [far c (by omega), far (4 + c) (by omega), far (8 + c) (by omega), far (12 + c) (by omega)]
    refine ⟨hd.1, hd.2.1, hd.2.2.1, ?_⟩
    rcases hd.2.2.2 with h | ⟨q, hq, h⟩
    · exact Or.inl h
    · exact Or.inr ⟨q, Nat.lt_succ_of_lt hq, h⟩
  · have hp' : p < ra_np A + 1 := hp
    show ((U (23 + p) = -1 ∧ ∃ k, k < ra_ni A ∧ U (16 + p) = nI k) ∨ (U (16 + p) = -1 ∧ ∃ c, c < ra_nc A ∧ U (23 + p) = nI c)) ∧ (∃ s, s ≤ 30 ∧ U (30 + p) = nI s) ∧ (U (37 + p) = -1 ∨ ∃ c, c < ra_nc A ∧ U (37 + p) = nI c)
    by_cases e : p = ra_np A
    · have u1 : U (16 + p) = nI v2 := by rw [← hU, e, ud_ne (by omega), ud_ne (by omega), ud_ne (by omega), ud_at]
      have u2 : U (23 + p) = -1 := by rw [← hU, e, ud_ne (by omega), ud_ne (by omega), ud_at]
      have u3 : U (30 + p) = nI v3 := by rw [← hU, e, ud_ne (by omega), ud_at]
      have u4 : U (37 + p) = v5 := by rw [← hU, e, ud_at]
      rw [u1, u2, u3, u4]
      exact ⟨Or.inl ⟨rfl, v2, by omega, rfl⟩, ⟨v3, by omega, rfl⟩, b4⟩
    · have hd := h2.2.1 p (by omega)
      have u1 : U (16 + p) = ra_V A (16 + p) := by rw [← hU, ud_ne (by omega), ud_ne (by omega), ud_ne (by omega), ud_ne (by omega)]
      have u2 : U (23 + p) = ra_V A (23 + p) := by rw [← hU, ud_ne (by omega), ud_ne (by omega), ud_ne (by omega), ud_ne (by omega)]
      have u3 : U (30 + p) = ra_V A (30 + p) := by rw [← hU, ud_ne (by omega), ud_ne (by omega), ud_ne (by omega), ud_ne (by omega)]
      have u4 : U (37 + p) = ra_V A (37 + p) := by rw [← hU, ud_ne (by omega), ud_ne (by omega), ud_ne (by omega), ud_ne (by omega)]
      rw [u1, u2, u3, u4]
      exact hd
  · show ∃ l, l < 2 ^ ra_ni A ∧ U 51 = nI l
    rw [far 51 (by omega)]; exact h2.2.2.1
  · show ∃ h, h ≤ 0 ∧ U 52 = nI h
    rw [far 52 (by omega)]; exact h2.2.2.2
  · show U (44 + p) = 0
    rw [far _ (by omega)]; exact h3 p hp
theorem one_ok {A : rd_A} (hA : AOK A) {p p' : Nat} (hp : p < n) (h : (rd_one t n A p).2 = .inr p') : AOK (rd_one t n A p).1 ∧ p < p' ∧ p' ≤ n := by
  unfold rd_one at h ⊢
  by_cases h108 : t p = 108
  · rw [if_pos h108] at h ⊢
    by_cases h0 : 0 < ra_ni A
    · rw [if_pos h0] at h; cases h
    · rw [if_neg h0] at h ⊢
      obtain ⟨p1, e1, l1, n1⟩ := en_ge h
      obtain ⟨a, p2, e2, l2, n2⟩ := cl_ok hA (by omega) e1
      cases e2
      exact ⟨a, by omega, n1⟩
  · rw [if_neg h108] at h ⊢
    by_cases h0 : ra_ni A = 0
    · rw [if_pos h0] at h; cases h
    · rw [if_neg h0] at h ⊢
      by_cases h99 : t p = 99
      · rw [if_pos h99] at h ⊢
        by_cases h4 : 4 ≤ ra_nc A
        · rw [if_pos h4] at h; cases h
        · rw [if_neg h4] at h ⊢
          obtain ⟨p1, e1, l1, n1⟩ := en_ge h
          obtain ⟨a, p2, e2, l2, n2⟩ := cc_ok hA h0 (by omega) e1
          cases e2
          exact ⟨a, by omega, n1⟩
      · rw [if_neg h99] at h ⊢
        by_cases h112 : t p = 112
        · rw [if_pos h112] at h ⊢
          by_cases h7 : 7 ≤ ra_np A
          · rw [if_pos h7] at h; cases h
          · rw [if_neg h7] at h ⊢
            obtain ⟨p1, e1, l1, n1⟩ := en_ge h
            obtain ⟨a, p2, e2, l2, n2⟩ := cp_ok hA h0 (by omega) e1
            cases e2
            exact ⟨a, by omega, n1⟩
        · rw [if_neg h112] at h; cases h
end
