/-! fields and arrays -/
theorem jz_gi_some {ci k a : Nat} {h : jz_H} {v : Int32} (hf : jz_gi ci k a h = some v) : ∃ fs, h.1[a]? = some (0, ci, fs) ∧ fs[k]? = some none ∧ v = h.2 a k := by
  unfold jz_gi at hf
  split at hf
  · next c fs hs =>
    split at hf
    · next hc => cases hf; obtain ⟨rfl, h2⟩ := hc; exact ⟨fs, hs, h2, rfl⟩
    · cases hf
  · cases hf
theorem jz_gr_some {ci k a : Nat} {h : jz_H} {r : Nat} (hf : jz_gr ci k a h = some r) : ∃ fs, h.1[a]? = some (0, ci, fs) ∧ fs[k]? = some (some (some r)) := by
  unfold jz_gr at hf
  split at hf
  · next c fs hs =>
    split at hf
    · next hc =>
      split at hf
      · next r' hr => cases hf; subst hc; exact ⟨fs, hs, hr⟩
      · cases hf
    · cases hf
  · cases hf
theorem jz_in_vp {i : Int32} {n : Nat} (h : jz_in i n = true) : vp_in i n := by
  unfold jz_in at h
  simp only [Bool.and_eq_true, decide_eq_true_eq] at h
  rintro (h1 | h1)
  · exact absurd h.1 (Int32.not_le.mpr h1)
  · omega
theorem jz_ld_some {t a : Nat} {i : Int32} {h : jz_H} {v : Int32} (hf : jz_ld t a i h = some v) : ∃ n fs, h.1[a]? = some (t, n, fs) ∧ vp_in i n ∧ v = h.2 a i.toNatClampNeg := by
  unfold jz_ld at hf
  split at hf
  · next u n fs hs =>
    split at hf
    · next hc => cases hf; obtain ⟨rfl, h2⟩ := hc; exact ⟨n, fs, hs, jz_in_vp h2, rfl⟩
    · cases hf
  · cases hf
theorem jz_lr_some {t a : Nat} {i : Int32} {h : jz_H} {r : Nat} (hf : jz_lr t a i h = some r) : ∃ n fs, h.1[a]? = some (t, n, fs) ∧ vp_in i n ∧ fs[i.toNatClampNeg]? = some (some (some r)) := by
  unfold jz_lr at hf
  split at hf
  · next u n fs hs =>
    split at hf
    · next hc =>
      split at hf
      · next r' hr => cases hf; obtain ⟨rfl, h2⟩ := hc; exact ⟨n, fs, hs, jz_in_vp h2, hr⟩
      · cases hf
    · cases hf
  · cases hf
theorem jr_fi {A : jz_A} {k pc p1 ci i N : Nat} {C : String} {T : u_T} {a : jz_X Nat} (j : Nat) (hcl : vwCl[ci]? = some (C, T, N)) (hin : ∀ w ∈ u_ws C T N, w ∈ jz_tb) (hj : j < N) (hw : Cond.fieldLink A.2.2.1 i (T j).1 (T j).2.1 (T j).2.2.1 ∈ jz_tb) (ha : jz_F A k pc p1 a) (hd : decode A.1 p1 = .ok (.getfield i, 3)) : jz_I A k pc (p1 + 3) (je_fi ci j a) := by
  intro p l e s m args below meth c S0 b D cA Q Cx L st h w h' hf hk kk
  obtain ⟨x, hx, hf⟩ := jz_bind hf
  obtain ⟨v, hv, hf⟩ := jz_bind hf
  cases hf
  obtain ⟨fs, hs, hfs, rfl⟩ := jz_gi_some hv
  refine ha p l e s m args below meth c S0 b D cA Q Cx L st h x.1 x.2 hx hk ?_
  intro H locs ls cells slots hR hS hl hc hss
  exact va_get (ci := ci) (v := .int (x.2.2 x.1 j)) Cx.1 Cx.2.1 Cx.2.2.2.2.1 hin Cx.2.2.2.1 Cx.2.2.2.2.2.1.1 hR x.1 (jz_ws_get hs) hcl j hj (Cx.2.2.2.2.1 _ hw) (fun _ h9 => h9) (by rw [List.getElem?_mapIdx, hfs]; rfl) hd (kk H locs ls cells slots hR hS hl hc hss)
theorem jr_fr {A : jz_A} {k pc p1 ci i N : Nat} {C : String} {T : u_T} {a : jz_X Nat} (j : Nat) (hcl : vwCl[ci]? = some (C, T, N)) (hin : ∀ w ∈ u_ws C T N, w ∈ jz_tb) (hj : j < N) (hw : Cond.fieldLink A.2.2.1 i (T j).1 (T j).2.1 (T j).2.2.1 ∈ jz_tb) (ha : jz_F A k pc p1 a) (hd : decode A.1 p1 = .ok (.getfield i, 3)) : jz_F A k pc (p1 + 3) (je_fr ci j a) := by
  intro p l e s m args below meth c S0 b D cA Q Cx L st h w h' hf hk kk
  obtain ⟨x, hx, hf⟩ := jz_bind hf
  obtain ⟨v, hv, hf⟩ := jz_bind hf
  cases hf
  obtain ⟨fs, hs, hfs⟩ := jz_gr_some hv
  refine ha p l e s m args below meth c S0 b D cA Q Cx L st h x.1 x.2 hx hk ?_
  intro H locs ls cells slots hR hS hl hc hss
  exact va_get (ci := ci) (v := .ref (S0 + w)) Cx.1 Cx.2.1 Cx.2.2.2.2.1 hin Cx.2.2.2.1 Cx.2.2.2.2.2.1.1 hR x.1 (jz_ws_get hs) hcl j hj (Cx.2.2.2.2.1 _ hw) (fun _ h9 => h9) (by rw [List.getElem?_mapIdx, hfs]; rfl) hd (kk H locs ls cells slots hR hS hl hc hss)
theorem jr_iaload {A : jz_A} {k pc p1 p2 : Nat} {a : jz_X Nat} {i : jz_X Int32} (ha : jz_F A k pc p1 a) (hi : jz_I A (k + 1) p1 p2 i) (hd : decode A.1 p2 = .ok (.iaload, 1)) : jz_I A k pc (p2 + 1) (je_ld 1 a i) := by
  intro p l e s m args below meth c S0 b D cA Q Cx L st h w h' hf hk kk
  obtain ⟨x, hx, hf⟩ := jz_bind hf
  obtain ⟨y, hy, hf⟩ := jz_bind hf
  obtain ⟨v, hv, hf⟩ := jz_bind hf
  cases hf
  obtain ⟨n, fs, hs, hin, rfl⟩ := jz_ld_some hv
  refine ha p l e s m args below meth c S0 b D cA Q Cx L st h x.1 x.2 hx hk ?_
  refine hi p l e s m args below meth c S0 b D cA Q Cx L _ x.2 y.1 y.2 hy (by simp only [List.map_cons, List.sum_cons]; exact (by have : (Value.ref x.1).category = 1 := rfl; omega)) ?_
  intro H locs ls cells slots hR hS hl hc hss
  exact va_iald Cx.1 Cx.2.1 Cx.2.2.2.2.2.1.1 hR x.1 0 (jz_ws_get hs) rfl hin hd (kk H locs ls cells slots hR hS hl hc hss)
theorem jr_baload {A : jz_A} {k pc p1 p2 : Nat} {a : jz_X Nat} {i : jz_X Int32} (ha : jz_F A k pc p1 a) (hi : jz_I A (k + 1) p1 p2 i) (hd : decode A.1 p2 = .ok (.baload, 1)) : jz_I A k pc (p2 + 1) (je_ld 2 a i) := by
  intro p l e s m args below meth c S0 b D cA Q Cx L st h w h' hf hk kk
  obtain ⟨x, hx, hf⟩ := jz_bind hf
  obtain ⟨y, hy, hf⟩ := jz_bind hf
  obtain ⟨v, hv, hf⟩ := jz_bind hf
  cases hf
  obtain ⟨n, fs, hs, hin, rfl⟩ := jz_ld_some hv
  refine ha p l e s m args below meth c S0 b D cA Q Cx L st h x.1 x.2 hx hk ?_
  refine hi p l e s m args below meth c S0 b D cA Q Cx L _ x.2 y.1 y.2 hy (by simp only [List.map_cons, List.sum_cons]; exact (by have : (Value.ref x.1).category = 1 := rfl; omega)) ?_
  intro H locs ls cells slots hR hS hl hc hss
  exact va_zald Cx.1 Cx.2.1 Cx.2.2.2.2.2.1.1 hR x.1 1 (jz_ws_get hs) rfl hin hd (kk H locs ls cells slots hR hS hl hc hss)
theorem jr_aaload {A : jz_A} {k pc p1 p2 : Nat} {a : jz_X Nat} {i : jz_X Int32} (t : Nat) {C : String} (ht : ∀ cA, (jz_tys cA)[t + 2]? = some (cA (t + 2), .object C)) (ha : jz_F A k pc p1 a) (hi : jz_I A (k + 1) p1 p2 i) (hd : decode A.1 p2 = .ok (.aaload, 1)) : jz_F A k pc (p2 + 1) (je_lr (t + 3) a i) := by
  intro p l e s m args below meth c S0 b D cA Q Cx L st h w h' hf hk kk
  obtain ⟨x, hx, hf⟩ := jz_bind hf
  obtain ⟨y, hy, hf⟩ := jz_bind hf
  obtain ⟨v, hv, hf⟩ := jz_bind hf
  cases hf
  obtain ⟨n, fs, hs, hin, hr⟩ := jz_lr_some hv
  refine ha p l e s m args below meth c S0 b D cA Q Cx L st h x.1 x.2 hx hk ?_
  refine hi p l e s m args below meth c S0 b D cA Q Cx L _ x.2 y.1 y.2 hy (by simp only [List.map_cons, List.sum_cons]; exact (by have : (Value.ref x.1).category = 1 := rfl; omega)) ?_
  intro H locs ls cells slots hR hS hl hc hss
  refine va_aldq (f := jz_ra S0 fs) Cx.1 Cx.2.1 Cx.2.2.2.2.2.1.1 hR x.1 (t + 2) (jz_ws_get hs) (ht cA) hin hd ?_
  have he : va_rf (jz_ra S0 fs y.1.toNatClampNeg) = jz_rho S0 b (.ref w) := by unfold jz_ra; rw [hr]; rfl
  rw [he]
  exact kk H locs ls cells slots hR hS hl hc hss
theorem jz_nne {x y : Int32} (z : x = y) : ¬ ¬ x = y := fun h => h z
theorem jz_pne {x y : Int32} (z : ¬ x = y) : ¬ x = y := z
theorem jz_neq {x y : Int32} (z : ¬ x = y) : ¬ x = y := z
theorem jz_peq {x y : Int32} (z : x = y) : x = y := z
theorem jz_nge {x y : Int32} (z : x < y) : ¬ y ≤ x := Int32.not_le.mpr z
theorem jz_pge {x y : Int32} (z : ¬ x < y) : y ≤ x := Int32.not_lt.mp z
theorem jz_nlt {x y : Int32} (z : y ≤ x) : ¬ x < y := Int32.not_lt.mpr z
theorem jz_plt {x y : Int32} (z : ¬ y ≤ x) : x < y := Int32.not_le.mp z
theorem jz_nle {x y : Int32} (z : y < x) : ¬ x ≤ y := Int32.not_le.mpr z
theorem jz_ple {x y : Int32} (z : ¬ y < x) : x ≤ y := Int32.not_lt.mp z
theorem jz_ngt {x y : Int32} (z : x ≤ y) : ¬ y < x := Int32.not_lt.mpr z
theorem jz_pgt {x y : Int32} (z : ¬ x ≤ y) : y < x := Int32.not_le.mp z
/-! conditions: the jump is taken where the source says 'else' (n), or where it says 'then' (y) -/
theorem jr_cmp {A : jz_A} {k pc p1 p2 pT pF : Nat} {op : Int32 → Int32 → Bool} {a b : jz_X Int32} (ha : jz_I A k pc p1 a) (hb : jz_I A (k + 1) p1 p2 b)
    (hop : ∀ p l e s m args below meth c S0 b D cA Q, jz_C p s m args meth c A S0 b D cA → ∀ (L : jz_L) (st : List Value) (h : jz_H) (x y : Int32), jz_W p l e s m args below meth c A S0 b D cA Q (if op x y = true then pT else pF) L st h → jz_W p l e s m args below meth c A S0 b D cA Q p2 L (.int y :: .int x :: st) h) : jz_B A k pc pT pF (je_bin op a b) := by
  intro p l e s m args below meth c S0 bb D cA Q C L st h w h' hf hk kk
  obtain ⟨x, hx, hf⟩ := jz_bind hf
  obtain ⟨y, hy, hf⟩ := jz_bind hf
  cases hf
  refine ha p l e s m args below meth c S0 bb D cA Q C L st h x.1 x.2 hx hk ?_
  refine hb p l e s m args below meth c S0 bb D cA Q C L _ x.2 y.1 y.2 hy (by simp only [List.map_cons, List.sum_cons]; exact (by have : (Value.int x.1).category = 1 := rfl; omega)) ?_
  exact hop p l e s m args below meth c S0 bb D cA Q C L st y.2 x.1 y.1 kk
theorem jr_cne_n {A : jz_A} {k pc p1 p2 tgt : Nat} {off : Int} {a b : jz_X Int32} (ha : jz_I A k pc p1 a) (hb : jz_I A (k + 1) p1 p2 b) (hd : decode A.1 p2 = .ok (.if_icmp .eq off, 3)) (ht : (p2 : Int) + off = (tgt : Int)) : jz_B A k pc (p2 + 3) tgt (je_bin jo_ne a b) := by
  refine jr_cmp ha hb ?_
  intro p l e s m args below meth c S0 b D cA Q C L st h x y kk H locs ls cells slots hR hS hl hc hs
  refine lv_icmp_eq (tgt := tgt) C.1 C.2.1 hd ht (fun z => ?_) (fun z => ?_)
  · rw [if_neg (by simp only [jo_ne, decide_eq_true_eq]; exact jz_nne z)] at kk; exact kk H locs ls cells slots hR hS hl hc hs
  · rw [if_pos (by simp only [jo_ne, decide_eq_true_eq]; exact jz_pne z)] at kk; exact kk H locs ls cells slots hR hS hl hc hs
theorem jr_ceq_y {A : jz_A} {k pc p1 p2 tgt : Nat} {off : Int} {a b : jz_X Int32} (ha : jz_I A k pc p1 a) (hb : jz_I A (k + 1) p1 p2 b) (hd : decode A.1 p2 = .ok (.if_icmp .eq off, 3)) (ht : (p2 : Int) + off = (tgt : Int)) : jz_B A k pc tgt (p2 + 3) (je_bin jo_eq a b) := by
  refine jr_cmp ha hb ?_
  intro p l e s m args below meth c S0 b D cA Q C L st h x y kk H locs ls cells slots hR hS hl hc hs
  refine lv_icmp_eq (tgt := tgt) C.1 C.2.1 hd ht (fun z => ?_) (fun z => ?_)
  · rw [if_pos (by simp only [jo_eq, decide_eq_true_eq]; exact z)] at kk; exact kk H locs ls cells slots hR hS hl hc hs
  · rw [if_neg (by simp only [jo_eq, decide_eq_true_eq]; exact z)] at kk; exact kk H locs ls cells slots hR hS hl hc hs
theorem jr_ceq_n {A : jz_A} {k pc p1 p2 tgt : Nat} {off : Int} {a b : jz_X Int32} (ha : jz_I A k pc p1 a) (hb : jz_I A (k + 1) p1 p2 b) (hd : decode A.1 p2 = .ok (.if_icmp .ne off, 3)) (ht : (p2 : Int) + off = (tgt : Int)) : jz_B A k pc (p2 + 3) tgt (je_bin jo_eq a b) := by
  refine jr_cmp ha hb ?_
  intro p l e s m args below meth c S0 b D cA Q C L st h x y kk H locs ls cells slots hR hS hl hc hs
  refine lv_icmp_ne (tgt := tgt) C.1 C.2.1 hd ht (fun z => ?_) (fun z => ?_)
  · rw [if_neg (by simp only [jo_eq, decide_eq_true_eq]; exact jz_neq z)] at kk; exact kk H locs ls cells slots hR hS hl hc hs
  · rw [if_pos (by simp only [jo_eq, decide_eq_true_eq]; exact jz_peq z)] at kk; exact kk H locs ls cells slots hR hS hl hc hs
theorem jr_cne_y {A : jz_A} {k pc p1 p2 tgt : Nat} {off : Int} {a b : jz_X Int32} (ha : jz_I A k pc p1 a) (hb : jz_I A (k + 1) p1 p2 b) (hd : decode A.1 p2 = .ok (.if_icmp .ne off, 3)) (ht : (p2 : Int) + off = (tgt : Int)) : jz_B A k pc tgt (p2 + 3) (je_bin jo_ne a b) := by
  refine jr_cmp ha hb ?_
  intro p l e s m args below meth c S0 b D cA Q C L st h x y kk H locs ls cells slots hR hS hl hc hs
  refine lv_icmp_ne (tgt := tgt) C.1 C.2.1 hd ht (fun z => ?_) (fun z => ?_)
  · rw [if_pos (by simp only [jo_ne, decide_eq_true_eq]; exact z)] at kk; exact kk H locs ls cells slots hR hS hl hc hs
  · rw [if_neg (by simp only [jo_ne, decide_eq_true_eq]; exact jz_nne z)] at kk; exact kk H locs ls cells slots hR hS hl hc hs
theorem jr_cge_n {A : jz_A} {k pc p1 p2 tgt : Nat} {off : Int} {a b : jz_X Int32} (ha : jz_I A k pc p1 a) (hb : jz_I A (k + 1) p1 p2 b) (hd : decode A.1 p2 = .ok (.if_icmp .lt off, 3)) (ht : (p2 : Int) + off = (tgt : Int)) : jz_B A k pc (p2 + 3) tgt (je_bin jo_ge a b) := by
  refine jr_cmp ha hb ?_
  intro p l e s m args below meth c S0 b D cA Q C L st h x y kk H locs ls cells slots hR hS hl hc hs
  refine lv_icmp_lt (tgt := tgt) C.1 C.2.1 hd ht (fun z => ?_) (fun z => ?_)
  · rw [if_neg (by simp only [jo_ge, decide_eq_true_eq]; exact jz_nge z)] at kk; exact kk H locs ls cells slots hR hS hl hc hs
  · rw [if_pos (by simp only [jo_ge, decide_eq_true_eq]; exact jz_pge z)] at kk; exact kk H locs ls cells slots hR hS hl hc hs
theorem jr_clt_y {A : jz_A} {k pc p1 p2 tgt : Nat} {off : Int} {a b : jz_X Int32} (ha : jz_I A k pc p1 a) (hb : jz_I A (k + 1) p1 p2 b) (hd : decode A.1 p2 = .ok (.if_icmp .lt off, 3)) (ht : (p2 : Int) + off = (tgt : Int)) : jz_B A k pc tgt (p2 + 3) (je_bin jo_lt a b) := by
  refine jr_cmp ha hb ?_
  intro p l e s m args below meth c S0 b D cA Q C L st h x y kk H locs ls cells slots hR hS hl hc hs
  refine lv_icmp_lt (tgt := tgt) C.1 C.2.1 hd ht (fun z => ?_) (fun z => ?_)
  · rw [if_pos (by simp only [jo_lt, decide_eq_true_eq]; exact z)] at kk; exact kk H locs ls cells slots hR hS hl hc hs
  · rw [if_neg (by simp only [jo_lt, decide_eq_true_eq]; exact z)] at kk; exact kk H locs ls cells slots hR hS hl hc hs
theorem jr_clt_n {A : jz_A} {k pc p1 p2 tgt : Nat} {off : Int} {a b : jz_X Int32} (ha : jz_I A k pc p1 a) (hb : jz_I A (k + 1) p1 p2 b) (hd : decode A.1 p2 = .ok (.if_icmp .ge off, 3)) (ht : (p2 : Int) + off = (tgt : Int)) : jz_B A k pc (p2 + 3) tgt (je_bin jo_lt a b) := by
  refine jr_cmp ha hb ?_
  intro p l e s m args below meth c S0 b D cA Q C L st h x y kk H locs ls cells slots hR hS hl hc hs
  refine lv_icmp_ge (tgt := tgt) C.1 C.2.1 hd ht (fun z => ?_) (fun z => ?_)
  · rw [if_neg (by simp only [jo_lt, decide_eq_true_eq]; exact jz_nlt z)] at kk; exact kk H locs ls cells slots hR hS hl hc hs
  · rw [if_pos (by simp only [jo_lt, decide_eq_true_eq]; exact jz_plt z)] at kk; exact kk H locs ls cells slots hR hS hl hc hs
theorem jr_cge_y {A : jz_A} {k pc p1 p2 tgt : Nat} {off : Int} {a b : jz_X Int32} (ha : jz_I A k pc p1 a) (hb : jz_I A (k + 1) p1 p2 b) (hd : decode A.1 p2 = .ok (.if_icmp .ge off, 3)) (ht : (p2 : Int) + off = (tgt : Int)) : jz_B A k pc tgt (p2 + 3) (je_bin jo_ge a b) := by
  refine jr_cmp ha hb ?_
  intro p l e s m args below meth c S0 b D cA Q C L st h x y kk H locs ls cells slots hR hS hl hc hs
  refine lv_icmp_ge (tgt := tgt) C.1 C.2.1 hd ht (fun z => ?_) (fun z => ?_)
  · rw [if_pos (by simp only [jo_ge, decide_eq_true_eq]; exact z)] at kk; exact kk H locs ls cells slots hR hS hl hc hs
  · rw [if_neg (by simp only [jo_ge, decide_eq_true_eq]; exact z)] at kk; exact kk H locs ls cells slots hR hS hl hc hs
theorem jr_cle_n {A : jz_A} {k pc p1 p2 tgt : Nat} {off : Int} {a b : jz_X Int32} (ha : jz_I A k pc p1 a) (hb : jz_I A (k + 1) p1 p2 b) (hd : decode A.1 p2 = .ok (.if_icmp .gt off, 3)) (ht : (p2 : Int) + off = (tgt : Int)) : jz_B A k pc (p2 + 3) tgt (je_bin jo_le a b) := by
  refine jr_cmp ha hb ?_
  intro p l e s m args below meth c S0 b D cA Q C L st h x y kk H locs ls cells slots hR hS hl hc hs
  refine lv_icmp_gt (tgt := tgt) C.1 C.2.1 hd ht (fun z => ?_) (fun z => ?_)
  · rw [if_neg (by simp only [jo_le, decide_eq_true_eq]; exact jz_nle z)] at kk; exact kk H locs ls cells slots hR hS hl hc hs
  · rw [if_pos (by simp only [jo_le, decide_eq_true_eq]; exact jz_ple z)] at kk; exact kk H locs ls cells slots hR hS hl hc hs
theorem jr_cgt_y {A : jz_A} {k pc p1 p2 tgt : Nat} {off : Int} {a b : jz_X Int32} (ha : jz_I A k pc p1 a) (hb : jz_I A (k + 1) p1 p2 b) (hd : decode A.1 p2 = .ok (.if_icmp .gt off, 3)) (ht : (p2 : Int) + off = (tgt : Int)) : jz_B A k pc tgt (p2 + 3) (je_bin jo_gt a b) := by
  refine jr_cmp ha hb ?_
  intro p l e s m args below meth c S0 b D cA Q C L st h x y kk H locs ls cells slots hR hS hl hc hs
  refine lv_icmp_gt (tgt := tgt) C.1 C.2.1 hd ht (fun z => ?_) (fun z => ?_)
  · rw [if_pos (by simp only [jo_gt, decide_eq_true_eq]; exact z)] at kk; exact kk H locs ls cells slots hR hS hl hc hs
  · rw [if_neg (by simp only [jo_gt, decide_eq_true_eq]; exact z)] at kk; exact kk H locs ls cells slots hR hS hl hc hs
theorem jr_cgt_n {A : jz_A} {k pc p1 p2 tgt : Nat} {off : Int} {a b : jz_X Int32} (ha : jz_I A k pc p1 a) (hb : jz_I A (k + 1) p1 p2 b) (hd : decode A.1 p2 = .ok (.if_icmp .le off, 3)) (ht : (p2 : Int) + off = (tgt : Int)) : jz_B A k pc (p2 + 3) tgt (je_bin jo_gt a b) := by
  refine jr_cmp ha hb ?_
  intro p l e s m args below meth c S0 b D cA Q C L st h x y kk H locs ls cells slots hR hS hl hc hs
  refine lv_icmp_le (tgt := tgt) C.1 C.2.1 hd ht (fun z => ?_) (fun z => ?_)
  · rw [if_neg (by simp only [jo_gt, decide_eq_true_eq]; exact jz_ngt z)] at kk; exact kk H locs ls cells slots hR hS hl hc hs
  · rw [if_pos (by simp only [jo_gt, decide_eq_true_eq]; exact jz_pgt z)] at kk; exact kk H locs ls cells slots hR hS hl hc hs
theorem jr_cle_y {A : jz_A} {k pc p1 p2 tgt : Nat} {off : Int} {a b : jz_X Int32} (ha : jz_I A k pc p1 a) (hb : jz_I A (k + 1) p1 p2 b) (hd : decode A.1 p2 = .ok (.if_icmp .le off, 3)) (ht : (p2 : Int) + off = (tgt : Int)) : jz_B A k pc tgt (p2 + 3) (je_bin jo_le a b) := by
  refine jr_cmp ha hb ?_
  intro p l e s m args below meth c S0 b D cA Q C L st h x y kk H locs ls cells slots hR hS hl hc hs
  refine lv_icmp_le (tgt := tgt) C.1 C.2.1 hd ht (fun z => ?_) (fun z => ?_)
  · rw [if_pos (by simp only [jo_le, decide_eq_true_eq]; exact z)] at kk; exact kk H locs ls cells slots hR hS hl hc hs
  · rw [if_neg (by simp only [jo_le, decide_eq_true_eq]; exact z)] at kk; exact kk H locs ls cells slots hR hS hl hc hs
