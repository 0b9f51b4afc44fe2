/-! a number against 0, a boolean -/
theorem jr_z {A : jz_A} {k pc p1 pT pF : Nat} {op : Int32 → Int32 → Bool} {a : jz_X Int32} (ha : jz_I A k pc p1 a)
    (hop : ∀ p l e s m args below meth c S0 b D cA Q, jz_C p s m args meth c A S0 b D cA → ∀ (L : jz_L) (st : List Value) (h : jz_H) (x : Int32), jz_W p l e s m args below meth c A S0 b D cA Q (if op x 0 = true then pT else pF) L st h → jz_W p l e s m args below meth c A S0 b D cA Q p1 L (.int x :: st) h) : jz_B A k pc pT pF (je_bin op a (je_int 0)) := by
  intro p l e s m args below meth c S0 bb D cA Q C L st h w h' hf hk kk
  obtain ⟨x, hx, hf⟩ := jz_bind hf
  cases hf
  refine ha p l e s m args below meth c S0 bb D cA Q C L st h x.1 x.2 hx hk ?_
  exact hop p l e s m args below meth c S0 bb D cA Q C L st x.2 x.1 kk
theorem jr_zne_n {A : jz_A} {k pc p1 tgt : Nat} {off : Int} {a : jz_X Int32} (ha : jz_I A k pc p1 a) (hd : decode A.1 p1 = .ok (.ifCond .eq off, 3)) (ht : (p1 : Int) + off = (tgt : Int)) : jz_B A k pc (p1 + 3) tgt (je_bin jo_ne a (je_int 0)) := by
  refine jr_z ha ?_
  intro p l e s m args below meth c S0 b D cA Q C L st h x kk H locs ls cells slots hR hS hl hc hs
  refine lv_if_eq (tgt := tgt) C.1 C.2.1 hd ht (fun z => ?_) (fun z => ?_)
  · rw [if_neg (by simp only [jo_ne, decide_eq_true_eq]; exact jz_nne z)] at kk; exact kk H locs ls cells slots hR hS hl hc hs
  · rw [if_pos (by simp only [jo_ne, decide_eq_true_eq]; exact jz_pne z)] at kk; exact kk H locs ls cells slots hR hS hl hc hs
theorem jr_zeq_y {A : jz_A} {k pc p1 tgt : Nat} {off : Int} {a : jz_X Int32} (ha : jz_I A k pc p1 a) (hd : decode A.1 p1 = .ok (.ifCond .eq off, 3)) (ht : (p1 : Int) + off = (tgt : Int)) : jz_B A k pc tgt (p1 + 3) (je_bin jo_eq a (je_int 0)) := by
  refine jr_z ha ?_
  intro p l e s m args below meth c S0 b D cA Q C L st h x kk H locs ls cells slots hR hS hl hc hs
  refine lv_if_eq (tgt := tgt) C.1 C.2.1 hd ht (fun z => ?_) (fun z => ?_)
  · rw [if_pos (by simp only [jo_eq, decide_eq_true_eq]; exact z)] at kk; exact kk H locs ls cells slots hR hS hl hc hs
  · rw [if_neg (by simp only [jo_eq, decide_eq_true_eq]; exact z)] at kk; exact kk H locs ls cells slots hR hS hl hc hs
theorem jr_zeq_n {A : jz_A} {k pc p1 tgt : Nat} {off : Int} {a : jz_X Int32} (ha : jz_I A k pc p1 a) (hd : decode A.1 p1 = .ok (.ifCond .ne off, 3)) (ht : (p1 : Int) + off = (tgt : Int)) : jz_B A k pc (p1 + 3) tgt (je_bin jo_eq a (je_int 0)) := by
  refine jr_z ha ?_
  intro p l e s m args below meth c S0 b D cA Q C L st h x kk H locs ls cells slots hR hS hl hc hs
  refine lv_if_ne (tgt := tgt) C.1 C.2.1 hd ht (fun z => ?_) (fun z => ?_)
  · rw [if_neg (by simp only [jo_eq, decide_eq_true_eq]; exact jz_neq z)] at kk; exact kk H locs ls cells slots hR hS hl hc hs
  · rw [if_pos (by simp only [jo_eq, decide_eq_true_eq]; exact jz_peq z)] at kk; exact kk H locs ls cells slots hR hS hl hc hs
theorem jr_zne_y {A : jz_A} {k pc p1 tgt : Nat} {off : Int} {a : jz_X Int32} (ha : jz_I A k pc p1 a) (hd : decode A.1 p1 = .ok (.ifCond .ne off, 3)) (ht : (p1 : Int) + off = (tgt : Int)) : jz_B A k pc tgt (p1 + 3) (je_bin jo_ne a (je_int 0)) := by
  refine jr_z ha ?_
  intro p l e s m args below meth c S0 b D cA Q C L st h x kk H locs ls cells slots hR hS hl hc hs
  refine lv_if_ne (tgt := tgt) C.1 C.2.1 hd ht (fun z => ?_) (fun z => ?_)
  · rw [if_pos (by simp only [jo_ne, decide_eq_true_eq]; exact z)] at kk; exact kk H locs ls cells slots hR hS hl hc hs
  · rw [if_neg (by simp only [jo_ne, decide_eq_true_eq]; exact jz_nne z)] at kk; exact kk H locs ls cells slots hR hS hl hc hs
theorem jr_zge_n {A : jz_A} {k pc p1 tgt : Nat} {off : Int} {a : jz_X Int32} (ha : jz_I A k pc p1 a) (hd : decode A.1 p1 = .ok (.ifCond .lt off, 3)) (ht : (p1 : Int) + off = (tgt : Int)) : jz_B A k pc (p1 + 3) tgt (je_bin jo_ge a (je_int 0)) := by
  refine jr_z ha ?_
  intro p l e s m args below meth c S0 b D cA Q C L st h x kk H locs ls cells slots hR hS hl hc hs
  refine lv_if_lt (tgt := tgt) C.1 C.2.1 hd ht (fun z => ?_) (fun z => ?_)
  · rw [if_neg (by simp only [jo_ge, decide_eq_true_eq]; exact jz_nge z)] at kk; exact kk H locs ls cells slots hR hS hl hc hs
  · rw [if_pos (by simp only [jo_ge, decide_eq_true_eq]; exact jz_pge z)] at kk; exact kk H locs ls cells slots hR hS hl hc hs
theorem jr_zlt_y {A : jz_A} {k pc p1 tgt : Nat} {off : Int} {a : jz_X Int32} (ha : jz_I A k pc p1 a) (hd : decode A.1 p1 = .ok (.ifCond .lt off, 3)) (ht : (p1 : Int) + off = (tgt : Int)) : jz_B A k pc tgt (p1 + 3) (je_bin jo_lt a (je_int 0)) := by
  refine jr_z ha ?_
  intro p l e s m args below meth c S0 b D cA Q C L st h x kk H locs ls cells slots hR hS hl hc hs
  refine lv_if_lt (tgt := tgt) C.1 C.2.1 hd ht (fun z => ?_) (fun z => ?_)
  · rw [if_pos (by simp only [jo_lt, decide_eq_true_eq]; exact z)] at kk; exact kk H locs ls cells slots hR hS hl hc hs
  · rw [if_neg (by simp only [jo_lt, decide_eq_true_eq]; exact z)] at kk; exact kk H locs ls cells slots hR hS hl hc hs
theorem jr_zlt_n {A : jz_A} {k pc p1 tgt : Nat} {off : Int} {a : jz_X Int32} (ha : jz_I A k pc p1 a) (hd : decode A.1 p1 = .ok (.ifCond .ge off, 3)) (ht : (p1 : Int) + off = (tgt : Int)) : jz_B A k pc (p1 + 3) tgt (je_bin jo_lt a (je_int 0)) := by
  refine jr_z ha ?_
  intro p l e s m args below meth c S0 b D cA Q C L st h x kk H locs ls cells slots hR hS hl hc hs
  refine lv_if_ge (tgt := tgt) C.1 C.2.1 hd ht (fun z => ?_) (fun z => ?_)
  · rw [if_neg (by simp only [jo_lt, decide_eq_true_eq]; exact jz_nlt z)] at kk; exact kk H locs ls cells slots hR hS hl hc hs
  · rw [if_pos (by simp only [jo_lt, decide_eq_true_eq]; exact jz_plt z)] at kk; exact kk H locs ls cells slots hR hS hl hc hs
theorem jr_zge_y {A : jz_A} {k pc p1 tgt : Nat} {off : Int} {a : jz_X Int32} (ha : jz_I A k pc p1 a) (hd : decode A.1 p1 = .ok (.ifCond .ge off, 3)) (ht : (p1 : Int) + off = (tgt : Int)) : jz_B A k pc tgt (p1 + 3) (je_bin jo_ge a (je_int 0)) := by
  refine jr_z ha ?_
  intro p l e s m args below meth c S0 b D cA Q C L st h x kk H locs ls cells slots hR hS hl hc hs
  refine lv_if_ge (tgt := tgt) C.1 C.2.1 hd ht (fun z => ?_) (fun z => ?_)
  · rw [if_pos (by simp only [jo_ge, decide_eq_true_eq]; exact z)] at kk; exact kk H locs ls cells slots hR hS hl hc hs
  · rw [if_neg (by simp only [jo_ge, decide_eq_true_eq]; exact z)] at kk; exact kk H locs ls cells slots hR hS hl hc hs
theorem jr_zle_n {A : jz_A} {k pc p1 tgt : Nat} {off : Int} {a : jz_X Int32} (ha : jz_I A k pc p1 a) (hd : decode A.1 p1 = .ok (.ifCond .gt off, 3)) (ht : (p1 : Int) + off = (tgt : Int)) : jz_B A k pc (p1 + 3) tgt (je_bin jo_le a (je_int 0)) := by
  refine jr_z ha ?_
  intro p l e s m args below meth c S0 b D cA Q C L st h x kk H locs ls cells slots hR hS hl hc hs
  refine lv_if_gt (tgt := tgt) C.1 C.2.1 hd ht (fun z => ?_) (fun z => ?_)
  · rw [if_neg (by simp only [jo_le, decide_eq_true_eq]; exact jz_nle z)] at kk; exact kk H locs ls cells slots hR hS hl hc hs
  · rw [if_pos (by simp only [jo_le, decide_eq_true_eq]; exact jz_ple z)] at kk; exact kk H locs ls cells slots hR hS hl hc hs
theorem jr_zgt_y {A : jz_A} {k pc p1 tgt : Nat} {off : Int} {a : jz_X Int32} (ha : jz_I A k pc p1 a) (hd : decode A.1 p1 = .ok (.ifCond .gt off, 3)) (ht : (p1 : Int) + off = (tgt : Int)) : jz_B A k pc tgt (p1 + 3) (je_bin jo_gt a (je_int 0)) := by
  refine jr_z ha ?_
  intro p l e s m args below meth c S0 b D cA Q C L st h x kk H locs ls cells slots hR hS hl hc hs
  refine lv_if_gt (tgt := tgt) C.1 C.2.1 hd ht (fun z => ?_) (fun z => ?_)
  · rw [if_pos (by simp only [jo_gt, decide_eq_true_eq]; exact z)] at kk; exact kk H locs ls cells slots hR hS hl hc hs
  · rw [if_neg (by simp only [jo_gt, decide_eq_true_eq]; exact z)] at kk; exact kk H locs ls cells slots hR hS hl hc hs
theorem jr_zgt_n {A : jz_A} {k pc p1 tgt : Nat} {off : Int} {a : jz_X Int32} (ha : jz_I A k pc p1 a) (hd : decode A.1 p1 = .ok (.ifCond .le off, 3)) (ht : (p1 : Int) + off = (tgt : Int)) : jz_B A k pc (p1 + 3) tgt (je_bin jo_gt a (je_int 0)) := by
  refine jr_z ha ?_
  intro p l e s m args below meth c S0 b D cA Q C L st h x kk H locs ls cells slots hR hS hl hc hs
  refine lv_if_le (tgt := tgt) C.1 C.2.1 hd ht (fun z => ?_) (fun z => ?_)
  · rw [if_neg (by simp only [jo_gt, decide_eq_true_eq]; exact jz_ngt z)] at kk; exact kk H locs ls cells slots hR hS hl hc hs
  · rw [if_pos (by simp only [jo_gt, decide_eq_true_eq]; exact jz_pgt z)] at kk; exact kk H locs ls cells slots hR hS hl hc hs
theorem jr_zle_y {A : jz_A} {k pc p1 tgt : Nat} {off : Int} {a : jz_X Int32} (ha : jz_I A k pc p1 a) (hd : decode A.1 p1 = .ok (.ifCond .le off, 3)) (ht : (p1 : Int) + off = (tgt : Int)) : jz_B A k pc tgt (p1 + 3) (je_bin jo_le a (je_int 0)) := by
  refine jr_z ha ?_
  intro p l e s m args below meth c S0 b D cA Q C L st h x kk H locs ls cells slots hR hS hl hc hs
  refine lv_if_le (tgt := tgt) C.1 C.2.1 hd ht (fun z => ?_) (fun z => ?_)
  · rw [if_pos (by simp only [jo_le, decide_eq_true_eq]; exact z)] at kk; exact kk H locs ls cells slots hR hS hl hc hs
  · rw [if_neg (by simp only [jo_le, decide_eq_true_eq]; exact z)] at kk; exact kk H locs ls cells slots hR hS hl hc hs
/-- a boolean that stands as an int: as 'not 0' -/
theorem jb_of_eq (a : jz_X Int32) : jb_of a = je_bin jo_ne a (je_int 0) := by
  funext L h
  simp only [jb_of, je_bin, je_int, Option.bind_some]
theorem jr_of_n {A : jz_A} {k pc p1 tgt : Nat} {off : Int} {a : jz_X Int32} (ha : jz_I A k pc p1 a) (hd : decode A.1 p1 = .ok (.ifCond .eq off, 3)) (ht : (p1 : Int) + off = (tgt : Int)) : jz_B A k pc (p1 + 3) tgt (jb_of a) := by
  rw [jb_of_eq]; exact jr_zne_n ha hd ht
theorem jr_of_y {A : jz_A} {k pc p1 tgt : Nat} {off : Int} {a : jz_X Int32} (ha : jz_I A k pc p1 a) (hd : decode A.1 p1 = .ok (.ifCond .ne off, 3)) (ht : (p1 : Int) + off = (tgt : Int)) : jz_B A k pc tgt (p1 + 3) (jb_of a) := by
  rw [jb_of_eq]; exact jr_zne_y ha hd ht
theorem jr_and {A : jz_A} {k pc p1 pT pF : Nat} {a b : jz_X Bool} (ha : jz_B A k pc p1 pF a) (hb : jz_B A k p1 pT pF b) : jz_B A k pc pT pF (jb_and a b) := by
  intro p l e s m args below meth c S0 bb D cA Q C L st h w h' hf hk kk
  obtain ⟨x, hx, hf⟩ := jz_bind hf
  refine ha p l e s m args below meth c S0 bb D cA Q C L st h x.1 x.2 hx hk ?_
  cases hx1 : x.1 with
  | true => rw [hx1, if_pos rfl] at hf; rw [if_pos rfl]; exact hb p l e s m args below meth c S0 bb D cA Q C L st x.2 w h' hf hk kk
  | false => rw [hx1, if_neg Bool.false_ne_true] at hf; cases hf; exact kk
theorem jr_or {A : jz_A} {k pc p1 pT pF : Nat} {a b : jz_X Bool} (ha : jz_B A k pc pT p1 a) (hb : jz_B A k p1 pT pF b) : jz_B A k pc pT pF (jb_or a b) := by
  intro p l e s m args below meth c S0 bb D cA Q C L st h w h' hf hk kk
  obtain ⟨x, hx, hf⟩ := jz_bind hf
  refine ha p l e s m args below meth c S0 bb D cA Q C L st h x.1 x.2 hx hk ?_
  cases hx1 : x.1 with
  | true => rw [hx1, if_pos rfl] at hf; cases hf; exact kk
  | false => rw [hx1, if_neg Bool.false_ne_true] at hf; rw [if_neg Bool.false_ne_true]; exact hb p l e s m args below meth c S0 bb D cA Q C L st x.2 w h' hf hk kk
theorem jr_not {A : jz_A} {k pc pT pF : Nat} {a : jz_X Bool} (ha : jz_B A k pc pF pT a) : jz_B A k pc pT pF (jb_not a) := by
  intro p l e s m args below meth c S0 bb D cA Q C L st h w h' hf hk kk
  obtain ⟨x, hx, hf⟩ := jz_bind hf
  cases hf
  refine ha p l e s m args below meth c S0 bb D cA Q C L st h x.1 x.2 hx hk ?_
  cases hx1 : x.1 with
  | true => rw [hx1] at kk; exact kk
  | false => rw [hx1] at kk; exact kk
/-- a condition's end may be a goto -/
theorem jr_bgoF {A : jz_A} {k pc pT pF tgt : Nat} {off : Int} {a : jz_X Bool} (ha : jz_B A k pc pT pF a) (hd : decode A.1 pF = .ok (.goto off, 3)) (ht : (pF : Int) + off = (tgt : Int)) : jz_B A k pc pT tgt a := by
  intro p l e s m args below meth c S0 bb D cA Q C L st h w h' hf hk kk
  refine ha p l e s m args below meth c S0 bb D cA Q C L st h w h' hf hk ?_
  cases w with
  | true => exact kk
  | false => exact fun H locs ls cells slots hR hS hl hc hs => lv_goto C.1 C.2.1 hd ht (kk H locs ls cells slots hR hS hl hc hs)
theorem jr_bgoT {A : jz_A} {k pc pT pF tgt : Nat} {off : Int} {a : jz_X Bool} (ha : jz_B A k pc pT pF a) (hd : decode A.1 pT = .ok (.goto off, 3)) (ht : (pT : Int) + off = (tgt : Int)) : jz_B A k pc tgt pF a := by
  intro p l e s m args below meth c S0 bb D cA Q C L st h w h' hf hk kk
  refine ha p l e s m args below meth c S0 bb D cA Q C L st h w h' hf hk ?_
  cases w with
  | false => exact kk
  | true => exact fun H locs ls cells slots hR hS hl hc hs => lv_goto C.1 C.2.1 hd ht (kk H locs ls cells slots hR hS hl hc hs)
/-- c ? a : b -/
theorem jr_ite {α : Type} {inj : α → Value} {A : jz_A} {k pc pT pF p1 p2 : Nat} {off : Int} {c : jz_X Bool} {a b : jz_X α} (hc : jz_B A k pc pT pF c) (ha : jz_EJ inj A k pT p1 a) (hd : decode A.1 p1 = .ok (.goto off, 3)) (ht : (p1 : Int) + off = (p2 : Int)) (hb : jz_EJ inj A k pF p2 b) : jz_EJ inj A k pc p2 (je_ite c a b) := by
  intro p l e s m args below meth cc S0 bb D cA Q C L st h w h' hf hk kk
  obtain ⟨x, hx, hf⟩ := jz_bind hf
  refine hc p l e s m args below meth cc S0 bb D cA Q C L st h x.1 x.2 hx hk ?_
  cases hx1 : x.1 with
  | true =>
    rw [hx1, if_pos rfl] at hf
    rw [if_pos rfl]
    refine ha p l e s m args below meth cc S0 bb D cA Q C L st x.2 w h' hf hk ?_
    exact fun H locs ls cells slots hR hS hl hc hs => lv_goto C.1 C.2.1 hd ht (kk H locs ls cells slots hR hS hl hc hs)
  | false =>
    rw [hx1, if_neg Bool.false_ne_true] at hf
    rw [if_neg Bool.false_ne_true]
    exact hb p l e s m args below meth cc S0 bb D cA Q C L st x.2 w h' hf hk kk
/-- a condition as a value -/
theorem jr_bool {A : jz_A} {k pc pT pF : Nat} {off : Int} {c : jz_X Bool} (hc : jz_B A k pc pT pF c) (h1 : decode A.1 pT = .ok (.iconst 1, 1)) (hd : decode A.1 (pT + 1) = .ok (.goto off, 3)) (ht : ((pT + 1 : Nat) : Int) + off = ((pF + 1 : Nat) : Int)) (h0 : decode A.1 pF = .ok (.iconst 0, 1)) : jz_I A k pc (pF + 1) (je_un jo_b c) := by
  intro p l e s m args below meth cc S0 bb D cA Q C L st h w h' hf hk kk
  obtain ⟨x, hx, hf⟩ := jz_bind hf
  cases hf
  refine hc p l e s m args below meth cc S0 bb D cA Q C L st h x.1 x.2 hx hk ?_
  cases hx1 : x.1 with
  | true =>
    rw [hx1] at kk
    intro H locs ls cells slots hR hS hl hc hs
    refine lv_iconst (v := 1) C.1 C.2.1 h1 rfl ?_
    refine lv_goto (tgt := pF + 1) C.1 C.2.1 hd ht ?_
    exact kk H locs ls cells slots hR hS hl hc hs
  | false =>
    rw [hx1] at kk
    intro H locs ls cells slots hR hS hl hc hs
    refine lv_iconst (v := 0) C.1 C.2.1 h0 rfl ?_
    exact kk H locs ls cells slots hR hS hl hc hs
/-! arguments -/
theorem jr_gnil {A : jz_A} {k pc : Nat} : jz_G A k pc pc jg_nil := by
  intro p l e s m args below meth cc S0 bb D cA Q C L st h w h' hf hk kk
  cases hf
  exact kk
theorem jr_gcons {α : Type} {inj : α → Value} {A : jz_A} {k pc p1 p2 : Nat} {a : jz_X α} {r : jz_X (List Value)} (ca : Nat) (hca : ∀ x, (inj x).category = ca) (ha : jz_EJ inj A k pc p1 a) (hr : jz_G A (k + ca) p1 p2 r) : jz_G A k pc p2 (jg_cons inj a r) := by
  intro p l e s m args below meth cc S0 bb D cA Q C L st h w h' hf hk kk
  obtain ⟨x, hx, hf⟩ := jz_bind hf
  obtain ⟨y, hy, hf⟩ := jz_bind hf
  cases hf
  refine ha p l e s m args below meth cc S0 bb D cA Q C L st h x.1 x.2 hx hk ?_
  refine hr p l e s m args below meth cc S0 bb D cA Q C L _ x.2 y.1 y.2 hy (by simp only [List.map_cons, List.sum_cons, hca]; omega) ?_
  have he : y.1.reverse ++ inj x.1 :: st = (inj x.1 :: y.1).reverse ++ st := by simp
  rw [he]
  exact kk
