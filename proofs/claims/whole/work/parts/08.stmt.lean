/-! STATEMENTS -/
def js_skip : jz_S := fun L h => some (.inl (L, h))
def js_seq (a b : jz_S) : jz_S := fun L h => (a L h).bind fun o => match o with
  | .inl x => b x.1 x.2
  | .inr y => some (.inr y)
def js_seti (i : Nat) (e : jz_X Int32) : jz_S := fun L h => (e L h).bind fun x => some (.inl (L.set i (some (.int x.1)), x.2))
def js_setr (i : Nat) (e : jz_X Nat) : jz_S := fun L h => (e L h).bind fun x => some (.inl (L.set i (some (.ref x.1)), x.2))
def js_inc (i : Nat) (n : Int32) : jz_S := fun L h => (je_loc i L h).bind fun x => some (.inl (L.set i (some (.int (x.1 + n))), x.2))
def js_if (c : jz_X Bool) (a b : jz_S) : jz_S := fun L h => (c L h).bind fun x => if x.1 = true then a L x.2 else b L x.2
def js_while (c : jz_X Bool) (s : jz_S) : Nat → jz_S
  | 0 => fun _ _ => none
  | n + 1 => fun L h => (c L h).bind fun x => if x.1 = true then (s L x.2).bind fun o => (match o with
    | .inl y => js_while c s n y.1 y.2
    | .inr y => some (.inr y)) else some (.inl (L, x.2))
/-- while c: a; if b, leave it; s -/
def js_wbrk (c : jz_X Bool) (a : jz_S) (b : jz_X Bool) (s : jz_S) : Nat → jz_S
  | 0 => fun _ _ => none
  | n + 1 => fun L h => (c L h).bind fun x => if x.1 = true then (a L x.2).bind fun o => (match o with
    | .inr y => some (.inr y)
    | .inl y => (b y.1 y.2).bind fun z => if z.1 = true then some (.inl (y.1, z.2)) else (s y.1 z.2).bind fun o => (match o with
      | .inl y => js_wbrk c a b s n y.1 y.2
      | .inr y => some (.inr y))) else some (.inl (L, x.2))
def js_ret (e : jz_X Int32) : jz_S := fun L h => (e L h).bind fun x => some (.inr (some (.int x.1), x.2))
def js_retv : jz_S := fun _ h => some (.inr (none, h))
def js_pop (e : jz_X Int32) : jz_S := fun L h => (e L h).bind fun x => some (.inl (L, x.2))
/-- an int field is written -/
def jz_pi (ci k a : Nat) (v : Int32) (h : jz_H) : Option jz_H := match h.1[a]? with
  | some (0, c, fs) => if c = ci ∧ fs[k]? = some none then some (h.1, jz_up h.2 a k v) else none
  | _ => none
def js_puti (ci k : Nat) (a : jz_X Nat) (e : jz_X Int32) : jz_S := fun L h => (a L h).bind fun x => (e L x.2).bind fun y => (jz_pi ci k x.1 y.1 y.2).bind fun z => some (.inl (L, z))
/-- a boolean field -/
def js_putz (ci k : Nat) (a : jz_X Nat) (e : jz_X Int32) : jz_S := fun L h => (a L h).bind fun x => (e L x.2).bind fun y => if y.1 = 0 ∨ y.1 = 1 then (jz_pi ci k x.1 y.1 y.2).bind fun z => some (.inl (L, z)) else none
/-- o.f op= e -/
def js_updf (op : Int32 → Int32 → Int32) (ci k : Nat) (a : jz_X Nat) (e : jz_X Int32) : jz_S := fun L h => (a L h).bind fun x => (jz_gi ci k x.1 x.2).bind fun v => (e L x.2).bind fun y => (jz_pi ci k x.1 (op v y.1) y.2).bind fun z => some (.inl (L, z))
/-- an element is written -/
def jz_st (t a : Nat) (i v : Int32) (h : jz_H) : Option jz_H := match h.1[a]? with
  | some (u, n, _) => if u = t ∧ jz_in i n = true then some (h.1, jz_up h.2 a i.toNatClampNeg v) else none
  | _ => none
def js_st (a : jz_X Nat) (i e : jz_X Int32) : jz_S := fun L h => (a L h).bind fun x => (i L x.2).bind fun y => (e L y.2).bind fun w => (jz_st 1 x.1 y.1 w.1 w.2).bind fun z => some (.inl (L, z))
def js_stz (a : jz_X Nat) (i e : jz_X Int32) : jz_S := fun L h => (a L h).bind fun x => (i L x.2).bind fun y => (e L y.2).bind fun w => (jz_st 2 x.1 y.1 (vp_nar .boolean w.1) w.2).bind fun z => some (.inl (L, z))
/-- a[i] op= e -/
def js_upda (op : Int32 → Int32 → Int32) (a : jz_X Nat) (i e : jz_X Int32) : jz_S := fun L h => (a L h).bind fun x => (i L x.2).bind fun y => (jz_ld 1 x.1 y.1 y.2).bind fun v => (e L y.2).bind fun w => (jz_st 1 x.1 y.1 (op v w.1) w.2).bind fun z => some (.inl (L, z))
def js_call (chk : List Value → jz_H → Bool) (M : jz_M Unit) (g : jz_X (List Value)) : jz_S := fun L h => (je_call chk M g L h).bind fun x => some (.inl (L, x.2))
/-- System.arraycopy of ints -/
def jz_cp (a0 : Nat) (sp : Int32) (a1 : Nat) (dp n : Int32) (h : jz_H) : Option jz_H := match h.1[a0]?, h.1[a1]? with
  | some (1, n0, _), some (1, n1, _) => if 0 ≤ sp ∧ 0 ≤ dp ∧ 0 ≤ n ∧ sp.toNatClampNeg + n.toNatClampNeg ≤ n0 ∧ dp.toNatClampNeg + n.toNatClampNeg ≤ n1 then some (h.1, fun x => if x = a1 then va_cpy (h.2 a0) (h.2 a1) sp.toNatClampNeg dp.toNatClampNeg n.toNatClampNeg else h.2 x) else none
  | _, _ => none
def js_copy (g : jz_X (List Value)) : jz_S := fun L h => (g L h).bind fun x => match x.1 with
  | [.ref a0, .int sp, .ref a1, .int dp, .int n] => (jz_cp a0 sp a1 dp n x.2).bind fun z => some (.inl (L, z))
  | _ => none
def jz_sw (lo hi : Int) (ss : List jz_S) (d : jz_S) (x : Int32) : jz_S := if x.toInt < lo ∨ hi < x.toInt then d else ss.getD (x.toInt - lo).toNat d
def js_switch (lo hi : Int) (e : jz_X Int32) (ss : List jz_S) (d : jz_S) : jz_S := fun L h => (e L h).bind fun x => jz_sw lo hi ss d x.1 L x.2
/-! rules -/
theorem jt_skip {A : jz_A} {pc : Nat} : jz_T A pc pc js_skip := by
  intro p l e s m args below meth c S0 b D cA Q C L h o hf kk
  cases hf
  exact kk
theorem jt_goto {A : jz_A} {pc p1 tgt : Nat} {off : Int} {s : jz_S} (hs : jz_T A pc p1 s) (hd : decode A.1 p1 = .ok (.goto off, 3)) (ht : (p1 : Int) + off = (tgt : Int)) : jz_T A pc tgt s := by
  intro p l e s m args below meth c S0 b D cA Q C L h o hf kk
  refine hs p l e s m args below meth c S0 b D cA Q C L h o hf ?_
  cases o with
  | inl x => exact fun H locs ls cells slots hR hS hl hc hs => lv_goto C.1 C.2.1 hd ht (kk H locs ls cells slots hR hS hl hc hs)
  | inr y => exact kk
theorem jt_seq {A : jz_A} {pc p1 p2 : Nat} {a b : jz_S} (ha : jz_T A pc p1 a) (hb : jz_T A p1 p2 b) : jz_T A pc p2 (js_seq a b) := by
  intro p l e s m args below meth c S0 bb D cA Q C L h o hf kk
  obtain ⟨x, hx, hf⟩ := jz_bind hf
  refine ha p l e s m args below meth c S0 bb D cA Q C L h x hx ?_
  cases x with
  | inl x => exact hb p l e s m args below meth c S0 bb D cA Q C x.1 x.2 o hf kk
  | inr y => cases hf; exact kk
/-- a statement that ends in a return of its own accord: no way goes behind it -/
theorem jt_any {A : jz_A} {pc p1 : Nat} {a : jz_S} (ha : ∀ q, jz_T A pc q a) : jz_T A pc p1 a := ha p1
theorem jt_ret {A : jz_A} {pc p1 q : Nat} {e : jz_X Int32} (he : jz_I A 0 pc p1 e) (hd : decode A.1 p1 = .ok (.ireturn, 1)) : jz_T A pc q (js_ret e) := by
  intro p l e s m args below meth c S0 bb D cA Q C L h o hf kk
  obtain ⟨x, hx, hf⟩ := jz_bind hf
  cases hf
  refine he p l e s m args below meth c S0 bb D cA Q C L [] h x.1 x.2 hx (Nat.le_refl _) ?_
  intro H locs ls cells slots hR hS hl hc hs
  exact kk p1 H locs ls cells slots hd hR hS hc hs
theorem jt_retv {A : jz_A} {pc q : Nat} (hd : decode A.1 pc = .ok (.return_, 1)) : jz_T A pc q js_retv := by
  intro p l e s m args below meth c S0 bb D cA Q C L h o hf kk
  cases hf
  intro H locs ls cells slots hR hS hl hc hs
  exact kk pc H locs ls cells slots hd hR hS hc hs
theorem jt_pop {A : jz_A} {pc p1 : Nat} {e : jz_X Int32} (he : jz_I A 0 pc p1 e) (hd : decode A.1 p1 = .ok (.pop, 1)) : jz_T A pc (p1 + 1) (js_pop e) := by
  intro p l e s m args below meth c S0 bb D cA Q C L h o hf kk
  obtain ⟨x, hx, hf⟩ := jz_bind hf
  cases hf
  refine he p l e s m args below meth c S0 bb D cA Q C L [] h x.1 x.2 hx (Nat.le_refl _) ?_
  intro H locs ls cells slots hR hS hl hc hs
  exact lv_pop C.1 C.2.1 hd rfl (kk H locs ls cells slots hR hS hl hc hs)
theorem jt_istore_n {A : jz_A} {pc p1 i : Nat} {n : Fin 4} {e : jz_X Int32} (he : jz_I A 0 pc p1 e) (hd : decode A.1 p1 = .ok (.istore_n n, 1)) (hi : (n : Nat) = i) (hn : i < A.2.1) : jz_T A pc (p1 + 1) (js_seti i e) := by
  intro p l e s m args below meth c S0 bb D cA Q C L h o hf kk
  obtain ⟨x, hx, hf⟩ := jz_bind hf
  cases hf
  refine he p l e s m args below meth c S0 bb D cA Q C L [] h x.1 x.2 hx (Nat.le_refl _) ?_
  intro H locs ls cells slots hR hS hl hc hs
  exact lv_istore_n C.1 C.2.1 hd hi hl hn rfl (fun ls' hl' => kk H locs ls' cells slots hR hS (jz_lvset (v := .int x.1) hl') hc hs)
theorem jt_istore {A : jz_A} {pc p1 i : Nat} {e : jz_X Int32} (he : jz_I A 0 pc p1 e) (hd : decode A.1 p1 = .ok (.istore i, 2)) (hn : i < A.2.1) : jz_T A pc (p1 + 2) (js_seti i e) := by
  intro p l e s m args below meth c S0 bb D cA Q C L h o hf kk
  obtain ⟨x, hx, hf⟩ := jz_bind hf
  cases hf
  refine he p l e s m args below meth c S0 bb D cA Q C L [] h x.1 x.2 hx (Nat.le_refl _) ?_
  intro H locs ls cells slots hR hS hl hc hs
  exact lv_istore C.1 C.2.1 hd hl hn rfl (fun ls' hl' => kk H locs ls' cells slots hR hS (jz_lvset (v := .int x.1) hl') hc hs)
theorem jt_astore_n {A : jz_A} {pc p1 i : Nat} {n : Fin 4} {e : jz_X Nat} (he : jz_F A 0 pc p1 e) (hd : decode A.1 p1 = .ok (.astore_n n, 1)) (hi : (n : Nat) = i) (hn : i < A.2.1) : jz_T A pc (p1 + 1) (js_setr i e) := by
  intro p l e s m args below meth c S0 bb D cA Q C L h o hf kk
  obtain ⟨x, hx, hf⟩ := jz_bind hf
  cases hf
  refine he p l e s m args below meth c S0 bb D cA Q C L [] h x.1 x.2 hx (Nat.le_refl _) ?_
  intro H locs ls cells slots hR hS hl hc hs
  exact lv_astore_n C.1 C.2.1 hd hi hl hn rfl (fun ls' hl' => kk H locs ls' cells slots hR hS (jz_lvset (v := .ref x.1) hl') hc hs)
theorem jt_iinc {A : jz_A} {pc i : Nat} {n : Int} (v : Int32) (hd : decode A.1 pc = .ok (.iinc i n, 3)) (hv : Int32.ofInt n = v) (hn : i < A.2.1) : jz_T A pc (pc + 3) (js_inc i v) := by
  intro p l e s m args below meth c S0 bb D cA Q C L h o hf kk
  obtain ⟨x, hx, hf⟩ := jz_bind hf
  cases hf
  obtain ⟨h1, h2⟩ := je_loc_some hx
  rw [h2] at kk
  intro H locs ls cells slots hR hS hl hc hs
  have hm : (i, jz_rho S0 bb (.int x.1)) ∈ jz_lv S0 bb L := jz_lv_mem.mpr ⟨_, h1, jz_c1, rfl⟩
  obtain ⟨k, hk⟩ := List.getElem?_of_mem hm
  subst hv
  exact lv_iinc C.1 C.2.1 hd hl hk rfl hn rfl (fun ls' hl' => kk H locs ls' cells slots hR hS (jz_lvset (v := .int (x.1 + Int32.ofInt n)) hl') hc hs)
theorem jt_if {A : jz_A} {pc pT pF q : Nat} {c : jz_X Bool} {a b : jz_S} (hc : jz_B A 0 pc pT pF c) (ha : jz_T A pT q a) (hb : jz_T A pF q b) : jz_T A pc q (js_if c a b) := by
  intro p l e s m args below meth cc S0 bb D cA Q C L h o hf kk
  obtain ⟨x, hx, hf⟩ := jz_bind hf
  refine hc p l e s m args below meth cc S0 bb D cA Q C L [] h x.1 x.2 hx (Nat.le_refl _) ?_
  cases hx1 : x.1 with
  | true => rw [hx1, if_pos rfl] at hf; exact ha p l e s m args below meth cc S0 bb D cA Q C L x.2 o hf kk
  | false => rw [hx1, if_neg Bool.false_ne_true] at hf; exact hb p l e s m args below meth cc S0 bb D cA Q C L x.2 o hf kk
/-- the head at pc, the body from pT back to pc, behind it at q -/
theorem jt_while {A : jz_A} {pc pT q : Nat} {c : jz_X Bool} {s : jz_S} (n : Nat) (hc : jz_B A 0 pc pT q c) (hs : jz_T A pT pc s) : jz_T A pc q (js_while c s n) := by
  induction n with
  | zero => intro p l e s m args below meth cc S0 bb D cA Q C L h o hf kk; cases hf
  | succ n ih =>
    intro p l e s m args below meth cc S0 bb D cA Q C L h o hf kk
    obtain ⟨x, hx, hf⟩ := jz_bind hf
    refine hc p l e s m args below meth cc S0 bb D cA Q C L [] h x.1 x.2 hx (Nat.le_refl _) ?_
    cases hx1 : x.1 with
    | true =>
      rw [hx1, if_pos rfl] at hf
      obtain ⟨y, hy, hf⟩ := jz_bind hf
      refine hs p l e s m args below meth cc S0 bb D cA Q C L x.2 y hy ?_
      cases y with
      | inl y => exact ih p l e s m args below meth cc S0 bb D cA Q C y.1 y.2 o hf kk
      | inr y => cases hf; exact kk
    | false => rw [hx1, if_neg Bool.false_ne_true] at hf; cases hf; exact kk
theorem jt_wbrk {A : jz_A} {pc pT p1 p2 q : Nat} {c b : jz_X Bool} {a s : jz_S} (n : Nat) (hc : jz_B A 0 pc pT q c) (ha : jz_T A pT p1 a) (hb : jz_B A 0 p1 q p2 b) (hs : jz_T A p2 pc s) : jz_T A pc q (js_wbrk c a b s n) := by
  induction n with
  | zero => intro p l e s m args below meth cc S0 bb D cA Q C L h o hf kk; cases hf
  | succ n ih =>
    intro p l e s m args below meth cc S0 bb D cA Q C L h o hf kk
    obtain ⟨x, hx, hf⟩ := jz_bind hf
    refine hc p l e s m args below meth cc S0 bb D cA Q C L [] h x.1 x.2 hx (Nat.le_refl _) ?_
    cases hx1 : x.1 with
    | false => rw [hx1, if_neg Bool.false_ne_true] at hf; cases hf; exact kk
    | true =>
      rw [hx1, if_pos rfl] at hf
      obtain ⟨y, hy, hf⟩ := jz_bind hf
      refine ha p l e s m args below meth cc S0 bb D cA Q C L x.2 y hy ?_
      cases y with
      | inr y => cases hf; exact kk
      | inl y =>
        obtain ⟨z, hz, hf⟩ := jz_bind hf
        refine hb p l e s m args below meth cc S0 bb D cA Q C y.1 [] y.2 z.1 z.2 hz (Nat.le_refl _) ?_
        cases hz1 : z.1 with
        | true => rw [hz1, if_pos rfl] at hf; cases hf; exact kk
        | false =>
          rw [hz1, if_neg Bool.false_ne_true] at hf
          obtain ⟨w, hw, hf⟩ := jz_bind hf
          refine hs p l e s m args below meth cc S0 bb D cA Q C y.1 z.2 w hw ?_
          cases w with
          | inl w => exact ih p l e s m args below meth cc S0 bb D cA Q C w.1 w.2 o hf kk
          | inr w => cases hf; exact kk
theorem jz_fvset {S0 : Nat} {f : Nat → Int32} {fs : List (Option (Option Nat))} {k : Nat} {v : Int32} (h : fs[k]? = some none) : (fs.mapIdx (jz_fv S0 f)).set k (.int v) = fs.mapIdx (jz_fv S0 (upd f k v)) := by
  have hk : k < fs.length := (List.getElem?_eq_some_iff.mp h).1
  apply List.ext_getElem?
  intro i
  by_cases hi : i = k
  · subst hi
    rw [List.getElem?_set_self (by rw [List.length_mapIdx]; exact hk), List.getElem?_mapIdx, h]
    simp [jz_fv, upd]
  · rw [List.getElem?_set_ne (fun z => hi z.symm), List.getElem?_mapIdx, List.getElem?_mapIdx]
    cases hs : fs[i]? with
    | none => rfl
    | some o => cases o with
      | none => simp [jz_fv, upd, hi]
      | some r => simp [jz_fv]
theorem jz_pi_some {ci k a : Nat} {v : Int32} {h h' : jz_H} (hf : jz_pi ci k a v h = some h') : ∃ fs, h.1[a]? = some (0, ci, fs) ∧ fs[k]? = some none ∧ h' = (h.1, jz_up h.2 a k v) := by
  unfold jz_pi at hf
  split at hf
  · next c fs hs =>
    split at hf
    · next hc => cases hf; obtain ⟨rfl, h2⟩ := hc; exact ⟨fs, hs, h2, rfl⟩
    · cases hf
  · cases hf
/-- the instruction putfield, of an int or a boolean -/
theorem jz_put {p : Program} {l : Launch} {e : Env} {s : State} {m : MethodId} {args : Array Value} {below : List Frame} {meth : Method} {c : Code} {A : jz_A} {S0 b : Nat} {D : va_G} {cA : Nat → ClassId} {Q : State → Prop} {pc : Nat} {L : jz_L} {st : List Value} {h h' : jz_H} (C : jz_C p s m args meth c A S0 b D cA)
    {ci i N a : Nat} {Cn : String} {T : u_T} {ty : FieldType} {v : Int32} (j : Nat) (ty0 : Nat → FieldType) (hty : ∀ k, k < N → parseFieldDescriptor (T k).2.2.1 = some (ty0 k)) (hnm : ∀ a, a < N → ∀ b, b < N → a ≠ b → (T a).2.1 ≠ (T b).2.1) (hcl : vwCl[ci]? = some (Cn, T, N)) (hin : ∀ w ∈ u_ws Cn T N, w ∈ jz_tb) (hj : j < N) (hw : Cond.fieldLink A.2.2.1 i (T j).1 (T j).2.1 (T j).2.2.1 ∈ jz_tb) (hfin : (T j).2.2.2 = false) (hdesc : parseFieldDescriptor (T j).2.2.1 = some ty) (hnar : narrow ty (.int v) = .int v) (hfit : fits ty (.int v) = true)
    (hd : decode A.1 pc = .ok (.putfield i, 3)) (hp : jz_pi ci j a v h = some h') (kk : jz_W p l e s m args below meth c A S0 b D cA Q (pc + 3) L st h') : jz_W p l e s m args below meth c A S0 b D cA Q pc L (.int v :: .ref a :: st) h := by
  obtain ⟨fs, hs, hfs, rfl⟩ := jz_pi_some hp
  intro H locs ls cells slots hR hS hl hc hss
  refine va_put (ci := ci) (v := .int v) C.1 C.2.1 C.2.2.2.2.1 hin ty0 hty hnm C.2.2.2.1 C.2.2.2.2.2.1.1 hR (jz_D S0 cA h) hS a (jz_ws_get hs) hcl j hj (C.2.2.2.2.1 _ hw) (fun _ h9 => h9) hfin hdesc hnar hfit (by rw [List.length_mapIdx]; exact (List.getElem?_eq_some_iff.mp hfs).1) hd (fun H1 locs1 hP1 hD1 hS1 => ?_)
  have he := jz_ws_put (S0 := S0) (cA := cA) hs j v
  have hE : (jz_E S0 cA (0, ci, fs) (upd (h.2 a) j v)) = .inr (ci, (fs.mapIdx (jz_fv S0 (h.2 a))).set j (.int v)) := by rw [jz_fvset hfs]; rfl
  rw [hE] at he
  rw [he] at hP1
  exact kk H1 locs1 ls cells slots hP1 hS1 hl hc hss
