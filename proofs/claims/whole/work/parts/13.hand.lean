/-! what has longs among its locals, by hand -/
def jz_clr : Nat → Int64 → Int32 → Int64
  | 0, o, _ => o
  | k + 1, o, q => jz_clr k (o * q.toInt64 / 100) q
def js_clr : jz_S := fun (L : jz_L) (h : jz_H) => match L[1]?, L[2]? with
  | some (some (Value.int n)), some (some (Value.int q)) => some (.inr (some (.int (jz_clr n.toNatClampNeg 1000000000 q).toInt32), h))
  | _, _ => none
theorem jz_clr_loop {p : Program} {l : Launch} {e : Env} {s : State} {m : MethodId} {args : Array Value} {below : List Frame} {meth : Method} {c : Code} {A : jz_A} {S0 b : Nat} {D : va_G} {cA : Nat → ClassId} {Q : State → Prop} {H : Heap} {locs : List Loc} {cells slots : Nat} {t i2 : Nat} {n q r : Int32} (C : jz_C p s m args meth c A S0 b D cA) (hnl : A.2.1 = 6) (w2 : Cond.constantLong A.2.2.1 i2 100 ∈ jz_tb)
    (d7 : decode A.1 (t + 7) = .ok (.iload 5, 2)) (d9 : decode A.1 (t + 9) = .ok (.iload_n 1, 1)) (d10 : decode A.1 (t + 10) = .ok (.if_icmp .ge 18, 3)) (d13 : decode A.1 (t + 13) = .ok (.lload_n 3, 1)) (d14 : decode A.1 (t + 14) = .ok (.iload_n 2, 1)) (d15 : decode A.1 (t + 15) = .ok (.i2l, 1)) (d16 : decode A.1 (t + 16) = .ok (.lmul, 1)) (d17 : decode A.1 (t + 17) = .ok (.ldc2_w i2, 3)) (d20 : decode A.1 (t + 20) = .ok (.ldiv, 1)) (d21 : decode A.1 (t + 21) = .ok (.lstore_n 3, 1)) (d22 : decode A.1 (t + 22) = .ok (.iinc 5 1, 3)) (d25 : decode A.1 (t + 25) = .ok (.goto (-18), 3)) (d28 : decode A.1 (t + 28) = .ok (.lload_n 3, 1)) (d29 : decode A.1 (t + 29) = .ok (.l2i, 1))
    (kk : ∀ ls, W p l e A.2.2.2.1 s m args below meth c H locs cells slots Q (F0 m (t + 30) ls [.int r])) :
    ∀ (k : Nat) (i : Int32) (o : Int64) (ls : Array Slot), i ≤ n ∨ k = 0 → (k = 0 → n ≤ i) → (n.toInt - i.toInt).toNat = k → lv_has ls 6 [(1, .int n), (2, .int q), (3, .long o), (5, .int i)] → (jz_clr k o q).toInt32 = r → W p l e A.2.2.2.1 s m args below meth c H locs cells slots Q (F0 m (t + 7) ls []) := by
  intro k
  induction k with
  | zero =>
    intro i o ls h1 h2 h3 hl hr
    refine lv_iload C.1 C.2.1 d7 (lv_at hl 3 rfl) ?_
    refine lv_iload_n C.1 C.2.1 d9 rfl (lv_at hl 0 rfl) ?_
    refine lv_icmp_ge (tgt := t + 28) C.1 C.2.1 d10 (by omega) (fun z => ?_) (fun z => absurd (h2 rfl) z)
    refine lv_lload_n C.1 C.2.1 d28 rfl (lv_at hl 2 rfl) ?_
    refine lv_l2i C.1 C.2.1 d29 hr ?_
    exact kk ls
  | succ k ih =>
    intro i o ls h1 h2 h3 hl hr
    have hlt : i < n := by
      rw [Int32.lt_iff_toInt_lt]
      omega
    refine lv_iload C.1 C.2.1 d7 (lv_at hl 3 rfl) ?_
    refine lv_iload_n C.1 C.2.1 d9 rfl (lv_at hl 0 rfl) ?_
    refine lv_icmp_ge (tgt := t + 28) C.1 C.2.1 d10 (by omega) (fun z => absurd hlt (Int32.not_lt.mpr z)) (fun z => ?_)
    refine lv_lload_n C.1 C.2.1 d13 rfl (lv_at hl 2 rfl) ?_
    refine lv_iload_n C.1 C.2.1 d14 rfl (lv_at hl 1 rfl) ?_
    refine lv_i2l C.1 C.2.1 d15 rfl ?_
    refine lv_lmul C.1 C.2.1 d16 ?_
    refine lv_ldc2 C.1 C.2.1 C.2.2.2.1 (C.2.2.2.2.1 _ w2) d17 ?_
    refine lv_ldiv C.1 C.2.1 d20 (by decide) ?_
    refine lv_topl (fun o2 eo2 => ?_)
    refine lv_lstore_n (lv' := [(3, .long o2), (1, .int n), (2, .int q), (5, .int i)]) C.1 C.2.1 d21 rfl hl (by decide) rfl (fun ls2 hl2 => ?_)
    obtain ⟨i2, ei2⟩ : ∃ y : Int32, y = i + 1 := ⟨_, rfl⟩
    refine lv_iinc (v := i2) (lv' := [(5, .int i2), (3, .long o2), (1, .int n), (2, .int q)]) C.1 C.2.1 d22 hl2 (k := 3) rfl (by rw [ei2]; rfl) (by decide) rfl (fun ls3 hl3 => ?_)
    refine lv_goto (tgt := t + 7) C.1 C.2.1 d25 (by omega) ?_
    have hb1 : i.toInt < 2147483647 := by
      have h4 := Int32.lt_iff_toInt_lt.mp hlt
      have h5 := n.toInt_lt
      omega
    have hb2 := i.le_toInt
    have hi2 : i2.toInt = i.toInt + 1 := by
      rw [ei2, Int32.toInt_add]
      show Int.bmod (i.toInt + 1) (2 ^ 32) = i.toInt + 1
      rw [Int.bmod_eq_of_le] <;> omega
    refine ih i2 o2 ls3 ?_ ?_ (by omega) (lv_sub hl3 [2, 3, 1, 0] rfl) (by rw [eo2]; exact hr)
    · left
      rw [Int32.le_iff_toInt_le]
      have h4 := Int32.lt_iff_toInt_lt.mp hlt
      omega
    · intro hk
      rw [Int32.le_iff_toInt_le]
      omega
theorem jt_clr {A : jz_A} {t q i1 i2 : Nat} (hnl : A.2.1 = 6) (w1 : Cond.constantLong A.2.2.1 i1 1000000000 ∈ jz_tb) (w2 : Cond.constantLong A.2.2.1 i2 100 ∈ jz_tb)
    (d0 : decode A.1 t = .ok (.ldc2_w i1, 3)) (d3 : decode A.1 (t + 3) = .ok (.lstore_n 3, 1)) (d4 : decode A.1 (t + 4) = .ok (.iconst 0, 1)) (d5 : decode A.1 (t + 5) = .ok (.istore 5, 2))
    (d7 : decode A.1 (t + 7) = .ok (.iload 5, 2)) (d9 : decode A.1 (t + 9) = .ok (.iload_n 1, 1)) (d10 : decode A.1 (t + 10) = .ok (.if_icmp .ge 18, 3)) (d13 : decode A.1 (t + 13) = .ok (.lload_n 3, 1)) (d14 : decode A.1 (t + 14) = .ok (.iload_n 2, 1)) (d15 : decode A.1 (t + 15) = .ok (.i2l, 1)) (d16 : decode A.1 (t + 16) = .ok (.lmul, 1)) (d17 : decode A.1 (t + 17) = .ok (.ldc2_w i2, 3)) (d20 : decode A.1 (t + 20) = .ok (.ldiv, 1)) (d21 : decode A.1 (t + 21) = .ok (.lstore_n 3, 1)) (d22 : decode A.1 (t + 22) = .ok (.iinc 5 1, 3)) (d25 : decode A.1 (t + 25) = .ok (.goto (-18), 3)) (d28 : decode A.1 (t + 28) = .ok (.lload_n 3, 1)) (d29 : decode A.1 (t + 29) = .ok (.l2i, 1)) (d30 : decode A.1 (t + 30) = .ok (.ireturn, 1)) : jz_T A t q js_clr := by
  intro p l e s m args below meth c S0 b D cA Q C L h o hf kk
  unfold js_clr at hf
  split at hf
  · next n qq hn hq =>
    cases hf
    intro H locs ls cells slots hR hS hl hc hs
    rw [hnl] at hl
    have hl0 : lv_has ls 6 [(1, .int n), (2, .int qq)] := ⟨hl.1, hl.2.1, fun x hx => by
      rcases List.mem_cons.mp hx with rfl | hx
      · exact jz_lvat hl hn jz_c1
      · rcases List.mem_cons.mp hx with rfl | hx
        · exact jz_lvat hl hq jz_c1
        · cases hx⟩
    refine lv_ldc2 C.1 C.2.1 C.2.2.2.1 (C.2.2.2.2.1 _ w1) d0 ?_
    refine lv_lstore_n (lv' := [(3, .long 1000000000), (1, .int n), (2, .int qq)]) C.1 C.2.1 d3 rfl hl0 (by decide) rfl (fun ls2 hl2 => ?_)
    refine lv_iconst (v := 0) C.1 C.2.1 d4 (by decide) ?_
    refine lv_istore (lv' := [(5, .int 0), (3, .long 1000000000), (1, .int n), (2, .int qq)]) C.1 C.2.1 d5 hl2 (by decide) rfl (fun ls3 hl3 => ?_)
    have hz : (0 : Int32).toInt = 0 := by decide
    have hcl : n.toNatClampNeg = n.toInt.toNat := rfl
    refine jz_clr_loop C hnl w2 d7 d9 d10 d13 d14 d15 d16 d17 d20 d21 d22 d25 d28 d29 (fun ls4 => kk (t + 30) H locs ls4 cells slots d30 hR hS hc hs) n.toNatClampNeg 0 1000000000 ls3 ?_ ?_ (by rw [hz, hcl]; omega) (lv_sub hl3 [2, 3, 1, 0] rfl) rfl
    · rw [Int32.le_iff_toInt_le, hz, hcl]; omega
    · intro h0
      rw [Int32.le_iff_toInt_le, hz]
      rw [hcl] at h0; omega
  · cases hf
def jz_inv (v a b : Int64) : Int32 := jo_b (decide (a ≤ v) && decide (v ≤ b))
/-- LeftCoachesModel.in -/
def MX9_in : jz_M Int32 := fun as h => match as with
  | [.long v, .long a, .long b] => some (jz_inv v a b, h)
  | _ => none
theorem jz_lcl {x y : Int64} : lg_cmp x y < 0 ↔ x < y := by
  unfold lg_cmp
  by_cases h1 : y < x
  · have : ¬ x < y := Int64.not_lt.mpr (Int64.le_of_lt h1)
    simp [h1, this]
  · by_cases h2 : x = y
    · subst h2; simp
    · have h3 : x < y := Int64.lt_of_le_of_ne (Int64.not_lt.mp h1) h2
      simp [h1, h2, h3]
theorem jz_lcg {x y : Int64} : 0 < lg_cmp x y ↔ y < x := by
  unfold lg_cmp
  by_cases h1 : y < x
  · simp [h1]
  · by_cases h2 : x = y
    · subst h2; simp
    · simp [h1, h2]
theorem KX9_in : jz_MI yX9_in cX9_in 6 (some .boolean) ({ frames := 0, cells := 0, slots := 0, locals := 0 } : Room) MX9_in := by
  intro l S0 b D cA as h r h' hM hok
  unfold MX9_in at hM
  split at hM
  case h_2 => cases hM
  rename_i v x y
  cases hM
  refine Met.ofW (cc := cX9_in) (maxL := 6) (ret := some .boolean) (by decide) rfl ?_
  intro p e s m args below meth c s₁ B hml hv
  obtain ⟨rfl, hR, hK, hsz⟩ := hv
  have hx := B.exec
  have hb := B.bytes
  have hr := B.returns
  have hlocks := B.notSynchronized
  have hl := lv_entry ([.long v, .long x, .long y]) (n := 6) (Nat.le_of_ble_eq_true rfl)
  have he : (List.map (jz_rho S0 b) [Value.long v, Value.long x, Value.long y]) = [Value.long v, Value.long x, Value.long y] := rfl
  rw [he, lg_entry_eq]
  generalize (lg_sl ([.long v, .long x, .long y]) ++ List.replicate (6 - (lg_sl ([.long v, .long x, .long y])).length) Slot.unset).toArray = ls at hl ⊢
  have hl : lv_has ls 6 [(0, .long v), (2, .long x), (4, .long y)] := hl
  have hret : ∀ (z : Int32), z = jz_inv v x y → (z = 0 ∨ z = 1) → W p l e (headSpec (Cond.code yX9_in cX9_in 6 (some .boolean) :: jz_tb) ({ frames := 0, cells := 0, slots := 0, locals := 0 } : Room)).room s m [Value.long v, Value.long x, Value.long y].toArray below meth c s.heap [] 0 0 (MQ below (jz_Qi S0 D cA (jz_inv v x y) h) [Value.long v, Value.long x, Value.long y].toArray s 0 0 (fun q => S0 ≤ q)) (F0 m 18 ls [.int z]) := by
    intro z hz h01
    have hn : narrow .boolean (.int z) = .int z := by
      rcases h01 with hb | hb <;> (rw [hb]; decide)
    exact W.zret (v := z) (ty := .boolean) hx hb hr hn (fun t ht hW => ⟨⟨z, h, rfl, ⟨hz, rfl⟩, by show jz_R S0 D cA h t.heap; rw [ht]; exact hR⟩, (va_S.rf : va_S (fun q => S0 ≤ q) s.heap s.heap []).F ht⟩) (fun q hq => by cases hq) dX9_in_18
  refine lv_lload_n hx hb dX9_in_0 rfl (lv_at hl 0 rfl) ?_
  refine lv_lload_n hx hb dX9_in_1 rfl (lv_at hl 1 rfl) ?_
  refine W.lcmp hx hb dX9_in_2 ?_
  refine lv_if_lt (tgt := 17) hx hb dX9_in_3 (by decide) (fun z => ?_) (fun z => ?_)
  · refine lv_iconst (v := 0) hx hb dX9_in_17 (by decide) ?_
    have h1 : ¬ x ≤ v := Int64.not_le.mpr (jz_lcl.mp z)
    exact hret 0 (by simp [jz_inv, jo_b, h1]) (Or.inl rfl)
  · have h1 : x ≤ v := Int64.not_lt.mp (fun w => z (jz_lcl.mpr w))
    refine lv_lload_n hx hb dX9_in_6 rfl (lv_at hl 0 rfl) ?_
    refine lv_lload hx hb dX9_in_7 (lv_at hl 2 rfl) ?_
    refine W.lcmp hx hb dX9_in_9 ?_
    refine lv_if_gt (tgt := 17) hx hb dX9_in_10 (by decide) (fun z => ?_) (fun z => ?_)
    · refine lv_iconst (v := 0) hx hb dX9_in_17 (by decide) ?_
      have h2 : ¬ v ≤ y := Int64.not_le.mpr (jz_lcg.mp z)
      exact hret 0 (by simp [jz_inv, jo_b, h2]) (Or.inl rfl)
    · have h2 : v ≤ y := Int64.not_lt.mp (fun w => z (jz_lcg.mpr w))
      refine lv_iconst (v := 1) hx hb dX9_in_13 (by decide) ?_
      refine lv_goto (tgt := 18) hx hb dX9_in_14 (by decide) ?_
      exact hret 1 (by simp [jz_inv, jo_b, h1, h2]) (Or.inr rfl)
