theorem jr_ldcw {A : jz_A} {k pc i : Nat} (v : Int32) (hw : Cond.constant A.2.2.1 i v ∈ jz_tb) (hd : decode A.1 pc = .ok (.ldc_w i, 3)) : jz_I A k pc (pc + 3) (je_int v) := by
  intro p l e s m args below meth c S0 b D cA Q C L st h w h' hf hk kk H locs ls cells slots hR hS hl hc hs
  cases hf
  exact lv_ldcw C.1 C.2.1 C.2.2.2.1 (C.2.2.2.2.1 _ hw) hd (kk H locs ls cells slots hR hS hl hc hs)
theorem jr_ego {α : Type} {inj : α → Value} {A : jz_A} {k pc p1 tgt : Nat} {off : Int} {a : jz_X α} (ha : jz_EJ inj A k pc p1 a) (hd : decode A.1 p1 = .ok (.goto off, 3)) (ht : (p1 : Int) + off = (tgt : Int)) : jz_EJ inj A k pc tgt a := by
  intro p l e s m args below meth c S0 b D cA Q C L st h w h' hf hk kk
  refine ha p l e s m args below meth c S0 b D cA Q C L st h w h' hf hk ?_
  exact fun H locs ls cells slots hR hS hl hc hs => lv_goto C.1 C.2.1 hd ht (kk H locs ls cells slots hR hS hl hc hs)
theorem jr_ite2 {α : Type} {inj : α → Value} {A : jz_A} {k pc pT pF p2 : Nat} {c : jz_X Bool} {a b : jz_X α} (hc : jz_B A k pc pT pF c) (ha : jz_EJ inj A k pT p2 a) (hb : jz_EJ inj A k pF p2 b) : jz_EJ inj A k pc p2 (je_ite c a b) := by
  intro p l e s m args below meth cc S0 bb D cA Q C L st h w h' hf hk kk
  obtain ⟨x, hx, hf⟩ := jz_bind hf
  refine hc p l e s m args below meth cc S0 bb D cA Q C L st h x.1 x.2 hx hk ?_
  cases hx1 : x.1 with
  | true =>
    rw [hx1, if_pos rfl] at hf
    rw [if_pos rfl]
    exact ha p l e s m args below meth cc S0 bb D cA Q C L st x.2 w h' hf hk kk
  | false =>
    rw [hx1, if_neg Bool.false_ne_true] at hf
    rw [if_neg Bool.false_ne_true]
    exact hb p l e s m args below meth cc S0 bb D cA Q C L st x.2 w h' hf hk kk
theorem jr_bool2 {A : jz_A} {k pc pT pF tgt : Nat} {off off2 : Int} {c : jz_X Bool} (hc : jz_B A k pc pT pF c) (h1 : decode A.1 pT = .ok (.iconst 1, 1)) (hd : decode A.1 (pT + 1) = .ok (.goto off, 3)) (ht : ((pT + 1 : Nat) : Int) + off = (tgt : Int)) (h0 : decode A.1 pF = .ok (.iconst 0, 1)) (hd2 : decode A.1 (pF + 1) = .ok (.goto off2, 3)) (ht2 : ((pF + 1 : Nat) : Int) + off2 = (tgt : Int)) : jz_I A k pc tgt (je_un jo_b c) := by
  intro p l e s m args below meth cc S0 bb D cA Q C L st h w h' hf hk kk
  obtain ⟨x, hx, hf⟩ := jz_bind hf
  cases hf
  refine hc p l e s m args below meth cc S0 bb D cA Q C L st h x.1 x.2 hx hk ?_
  cases hx1 : x.1 with
  | true =>
    rw [hx1] at kk
    intro H locs ls cells slots hR hS hl hc hs
    refine lv_iconst (v := 1) C.1 C.2.1 h1 rfl ?_
    refine lv_goto (tgt := tgt) C.1 C.2.1 hd ht ?_
    exact kk H locs ls cells slots hR hS hl hc hs
  | false =>
    rw [hx1] at kk
    intro H locs ls cells slots hR hS hl hc hs
    refine lv_iconst (v := 0) C.1 C.2.1 h0 rfl ?_
    refine lv_goto (tgt := tgt) C.1 C.2.1 hd2 ht2 ?_
    exact kk H locs ls cells slots hR hS hl hc hs
/-- the arms of a switch -/
def jz_arms (A : jz_A) (q : Nat) : List Nat → List jz_S → Prop
  | t :: ts, s :: ss => jz_T A t q s ∧ jz_arms A q ts ss
  | _, _ => True
theorem jz_arm_nil {A : jz_A} {q : Nat} : jz_arms A q [] [] := trivial
theorem jz_arm_cons {A : jz_A} {q t : Nat} {s : jz_S} {ts : List Nat} {ss : List jz_S} (h : jz_T A t q s) (hs : jz_arms A q ts ss) : jz_arms A q (t :: ts) (s :: ss) := ⟨h, hs⟩
theorem jz_arms_of {A : jz_A} {q : Nat} {ts : List Nat} {ss : List jz_S} (h : jz_arms A q ts ss) : ∀ (i : Nat) (t : Nat) (s : jz_S), ts[i]? = some t → ss[i]? = some s → jz_T A t q s := by
  induction ts generalizing ss with
  | nil => intro i t s h1; simp at h1
  | cons t0 ts ih =>
    cases ss with
    | nil => intro i t s _ h2; simp at h2
    | cons s0 ss =>
      intro i t s h1 h2
      cases i with
      | zero => simp only [List.getElem?_cons_zero, Option.some.injEq] at h1 h2; subst h1; subst h2; exact h.1
      | succ i => simp only [List.getElem?_cons_succ] at h1 h2; exact ih h.2 i t s h1 h2
