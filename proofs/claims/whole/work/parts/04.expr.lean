/-! EXPRESSIONS: what they mean, and what javac makes of them -/
def je_int (v : Int32) : jz_X Int32 := fun _ h => some (v, h)
def je_lng (v : Int64) : jz_X Int64 := fun _ h => some (v, h)
def je_loc (i : Nat) : jz_X Int32 := fun L h => match L[i]? with
  | some (some (.int x)) => some (x, h)
  | _ => none
def je_lor (i : Nat) : jz_X Nat := fun L h => match L[i]? with
  | some (some (.ref x)) => some (x, h)
  | _ => none
def je_bin {α β γ : Type} (op : α → β → γ) (a : jz_X α) (b : jz_X β) : jz_X γ := fun L h => (a L h).bind fun x => (b L x.2).bind fun y => some (op x.1 y.1, y.2)
def je_un {α β : Type} (op : α → β) (a : jz_X α) : jz_X β := fun L h => (a L h).bind fun x => some (op x.1, x.2)
abbrev jo_shl (x y : Int32) : Int32 := x <<< (y &&& 31)
abbrev jo_shr (x y : Int32) : Int32 := x >>> (y &&& 31)
def jo_ushr (x y : Int32) : Int32 := (x.toUInt32 >>> (y.toUInt32 &&& Int32.toUInt32 31)).toInt32
abbrev jo_rem (x y : Int32) : Int32 := x - x / y * y
abbrev jo_lrem (x y : Int64) : Int64 := x - x / y * y
/-- a division, whose divisor is not 0 -/
def je_div (op : Int32 → Int32 → Int32) (a b : jz_X Int32) : jz_X Int32 := fun L h => (a L h).bind fun x => (b L x.2).bind fun y => if y.1 = 0 then none else some (op x.1 y.1, y.2)
def je_ldiv (op : Int64 → Int64 → Int64) (a b : jz_X Int64) : jz_X Int64 := fun L h => (a L h).bind fun x => (b L x.2).bind fun y => if y.1 = 0 then none else some (op x.1 y.1, y.2)
/-- an int field, a reference field, of an object of class ci -/
def jz_gi (ci k a : Nat) (h : jz_H) : Option Int32 := match h.1[a]? with
  | some (0, c, fs) => if c = ci ∧ fs[k]? = some none then some (h.2 a k) else none
  | _ => none
def jz_gr (ci k a : Nat) (h : jz_H) : Option Nat := match h.1[a]? with
  | some (0, c, fs) => if c = ci then (match fs[k]? with
    | some (some (some r)) => some r
    | _ => none) else none
  | _ => none
def je_fi (ci k : Nat) (a : jz_X Nat) : jz_X Int32 := fun L h => (a L h).bind fun x => (jz_gi ci k x.1 x.2).bind fun v => some (v, x.2)
def je_fr (ci k : Nat) (a : jz_X Nat) : jz_X Nat := fun L h => (a L h).bind fun x => (jz_gr ci k x.1 x.2).bind fun v => some (v, x.2)
/-- an element of an array of ints (t = 1), of booleans (2) -/
def jz_in (i : Int32) (n : Nat) : Bool := decide (0 ≤ i) && decide (i.toNatClampNeg < n)
def jz_ld (t a : Nat) (i : Int32) (h : jz_H) : Option Int32 := match h.1[a]? with
  | some (u, n, _) => if u = t ∧ jz_in i n = true then some (h.2 a i.toNatClampNeg) else none
  | _ => none
def je_ld (t : Nat) (a : jz_X Nat) (i : jz_X Int32) : jz_X Int32 := fun L h => (a L h).bind fun x => (i L x.2).bind fun y => (jz_ld t x.1 y.1 y.2).bind fun v => some (v, y.2)
/-- an element of an array of references (t from 3 on) -/
def jz_lr (t a : Nat) (i : Int32) (h : jz_H) : Option Nat := match h.1[a]? with
  | some (u, n, fs) => if u = t ∧ jz_in i n = true then (match fs[i.toNatClampNeg]? with
    | some (some (some r)) => some r
    | _ => none) else none
  | _ => none
def je_lr (t : Nat) (a : jz_X Nat) (i : jz_X Int32) : jz_X Nat := fun L h => (a L h).bind fun x => (i L x.2).bind fun y => (jz_lr t x.1 y.1 y.2).bind fun v => some (v, y.2)
/-- conditions -/
abbrev jo_lt (x y : Int32) : Bool := decide (x < y)
abbrev jo_le (x y : Int32) : Bool := decide (x ≤ y)
abbrev jo_gt (x y : Int32) : Bool := decide (y < x)
abbrev jo_ge (x y : Int32) : Bool := decide (y ≤ x)
abbrev jo_eq (x y : Int32) : Bool := decide (x = y)
abbrev jo_ne (x y : Int32) : Bool := decide (¬ x = y)
def jb_and (a b : jz_X Bool) : jz_X Bool := fun L h => (a L h).bind fun x => if x.1 = true then b L x.2 else some (false, x.2)
def jb_or (a b : jz_X Bool) : jz_X Bool := fun L h => (a L h).bind fun x => if x.1 = true then some (true, x.2) else b L x.2
def jb_not (a : jz_X Bool) : jz_X Bool := fun L h => (a L h).bind fun x => some (!x.1, x.2)
/-- a boolean that stands as an int -/
def jb_of (a : jz_X Int32) : jz_X Bool := fun L h => (a L h).bind fun x => some (decide (¬ x.1 = 0), x.2)
def jo_b (b : Bool) : Int32 := if b = true then 1 else 0
def je_ite {α : Type} (c : jz_X Bool) (a b : jz_X α) : jz_X α := fun L h => (c L h).bind fun x => if x.1 = true then a L x.2 else b L x.2
/-- arguments -/
def jg_nil : jz_X (List Value) := fun _ h => some ([], h)
def jg_cons {α : Type} (inj : α → Value) (a : jz_X α) (r : jz_X (List Value)) : jz_X (List Value) := fun L h => (a L h).bind fun x => (r L x.2).bind fun y => some (inj x.1 :: y.1, y.2)
theorem jz_bind {α β : Type} {x : Option α} {f : α → Option β} {b : β} (h : x.bind f = some b) : ∃ a, x = some a ∧ f a = some b := by
  cases x with
  | none => cases h
  | some a => exact ⟨a, rfl, h⟩
/-! rules -/
theorem jz_W.eq {p : Program} {l : Launch} {e : Env} {s : State} {m : MethodId} {args : Array Value} {below : List Frame} {meth : Method} {c : Code} {A : jz_A} {S0 b : Nat} {D : va_G} {cA : Nat → ClassId} {Q : State → Prop} {pc pc' : Nat} {L : jz_L} {st : List Value} {h : jz_H} (k : jz_W p l e s m args below meth c A S0 b D cA Q pc' L st h) (he : pc' = pc) : jz_W p l e s m args below meth c A S0 b D cA Q pc L st h := he ▸ k
theorem jr_iconst {A : jz_A} {k pc : Nat} {n : Int} (v : Int32) (hd : decode A.1 pc = .ok (.iconst n, 1)) (hv : Int32.ofInt n = v) : jz_I A k pc (pc + 1) (je_int v) := by
  intro p l e s m args below meth c S0 b D cA Q C L st h w h' hf hk kk H locs ls cells slots hR hS hl hc hs
  cases hf
  exact lv_iconst C.1 C.2.1 hd hv (kk H locs ls cells slots hR hS hl hc hs)
theorem jr_bipush {A : jz_A} {k pc : Nat} {n : Int} (v : Int32) (hd : decode A.1 pc = .ok (.bipush n, 2)) (hv : (Int8.ofInt n).toInt32 = v) : jz_I A k pc (pc + 2) (je_int v) := by
  intro p l e s m args below meth c S0 b D cA Q C L st h w h' hf hk kk H locs ls cells slots hR hS hl hc hs
  cases hf
  exact lv_bipush C.1 C.2.1 hd hv (kk H locs ls cells slots hR hS hl hc hs)
theorem jr_sipush {A : jz_A} {k pc : Nat} {n : Int} (v : Int32) (hd : decode A.1 pc = .ok (.sipush n, 3)) (hv : (Int16.ofInt n).toInt32 = v) : jz_I A k pc (pc + 3) (je_int v) := by
  intro p l e s m args below meth c S0 b D cA Q C L st h w h' hf hk kk H locs ls cells slots hR hS hl hc hs
  cases hf
  exact lv_sipush C.1 C.2.1 hd hv (kk H locs ls cells slots hR hS hl hc hs)
theorem jr_ldc {A : jz_A} {k pc i : Nat} (v : Int32) (hw : Cond.constant A.2.2.1 i v ∈ jz_tb) (hd : decode A.1 pc = .ok (.ldc i, 2)) : jz_I A k pc (pc + 2) (je_int v) := by
  intro p l e s m args below meth c S0 b D cA Q C L st h w h' hf hk kk H locs ls cells slots hR hS hl hc hs
  cases hf
  exact lv_ldc C.1 C.2.1 C.2.2.2.1 (C.2.2.2.2.1 _ hw) hd (kk H locs ls cells slots hR hS hl hc hs)
theorem jr_ldc2 {A : jz_A} {k pc i : Nat} (v : Int64) (hw : Cond.constantLong A.2.2.1 i v ∈ jz_tb) (hd : decode A.1 pc = .ok (.ldc2_w i, 3)) : jz_J A k pc (pc + 3) (je_lng v) := by
  intro p l e s m args below meth c S0 b D cA Q C L st h w h' hf hk kk H locs ls cells slots hR hS hl hc hs
  cases hf
  exact lv_ldc2 C.1 C.2.1 C.2.2.2.1 (C.2.2.2.2.1 _ hw) hd (kk H locs ls cells slots hR hS hl hc hs)
theorem jr_lconst {A : jz_A} {k pc : Nat} {n : Fin 2} (v : Int64) (hd : decode A.1 pc = .ok (.lconst n, 1)) (hv : Int64.ofNat (n : Nat) = v) : jz_J A k pc (pc + 1) (je_lng v) := by
  intro p l e s m args below meth c S0 b D cA Q C L st h w h' hf hk kk H locs ls cells slots hR hS hl hc hs
  cases hf
  exact lv_lconst C.1 C.2.1 hd hv (kk H locs ls cells slots hR hS hl hc hs)
theorem jz_c1 : (1 : Nat) ≠ 2 := by decide
theorem je_loc_some {i : Nat} {L : jz_L} {h h' : jz_H} {x : Int32} (hf : je_loc i L h = some (x, h')) : L[i]? = some (some (.int x)) ∧ h' = h := by
  unfold je_loc at hf
  split at hf
  · next y hy => cases hf; exact ⟨hy, rfl⟩
  · cases hf
theorem je_lor_some {i : Nat} {L : jz_L} {h h' : jz_H} {x : Nat} (hf : je_lor i L h = some (x, h')) : L[i]? = some (some (.ref x)) ∧ h' = h := by
  unfold je_lor at hf
  split at hf
  · next y hy => cases hf; exact ⟨hy, rfl⟩
  · cases hf
theorem jr_iload_n {A : jz_A} {k pc : Nat} {n : Fin 4} (i : Nat) (hd : decode A.1 pc = .ok (.iload_n n, 1)) (hi : (n : Nat) = i) : jz_I A k pc (pc + 1) (je_loc i) := by
  intro p l e s m args below meth c S0 b D cA Q C L st h w h' hf hk kk H locs ls cells slots hR hS hl hc hs
  obtain ⟨h1, rfl⟩ := je_loc_some hf
  exact lv_iload_n C.1 C.2.1 hd hi (jz_lvat hl h1 jz_c1) (kk H locs ls cells slots hR hS hl hc hs)
theorem jr_iload {A : jz_A} {k pc i : Nat} (hd : decode A.1 pc = .ok (.iload i, 2)) : jz_I A k pc (pc + 2) (je_loc i) := by
  intro p l e s m args below meth c S0 b D cA Q C L st h w h' hf hk kk H locs ls cells slots hR hS hl hc hs
  obtain ⟨h1, rfl⟩ := je_loc_some hf
  exact lv_iload C.1 C.2.1 hd (jz_lvat hl h1 jz_c1) (kk H locs ls cells slots hR hS hl hc hs)
theorem jr_aload_n {A : jz_A} {k pc : Nat} {n : Fin 4} (i : Nat) (hd : decode A.1 pc = .ok (.aload_n n, 1)) (hi : (n : Nat) = i) : jz_F A k pc (pc + 1) (je_lor i) := by
  intro p l e s m args below meth c S0 b D cA Q C L st h w h' hf hk kk H locs ls cells slots hR hS hl hc hs
  obtain ⟨h1, rfl⟩ := je_lor_some hf
  exact lv_aload_n C.1 C.2.1 hd hi (jz_lvat hl h1 jz_c1) (kk H locs ls cells slots hR hS hl hc hs)
theorem jr_aload {A : jz_A} {k pc i : Nat} (hd : decode A.1 pc = .ok (.aload i, 2)) : jz_F A k pc (pc + 2) (je_lor i) := by
  intro p l e s m args below meth c S0 b D cA Q C L st h w h' hf hk kk H locs ls cells slots hR hS hl hc hs
  obtain ⟨h1, rfl⟩ := je_lor_some hf
  exact lv_aload C.1 C.2.1 hd (jz_lvat hl h1 jz_c1) (kk H locs ls cells slots hR hS hl hc hs)
/-- two operands, then one instruction -/
theorem jr_bin {α β γ : Type} {ia : α → Value} {ib : β → Value} {ic : γ → Value} {A : jz_A} {k ca pc p1 p2 p3 : Nat} {op : α → β → γ} {a : jz_X α} {b : jz_X β} (hca : ∀ x, (ia x).category = ca) (ha : jz_EJ ia A k pc p1 a) (hb : jz_EJ ib A (k + ca) p1 p2 b)
    (hop : ∀ p l e s m args below meth c S0 b D cA Q, jz_C p s m args meth c A S0 b D cA → ∀ (L : jz_L) (st : List Value) (h : jz_H) (x : α) (y : β), jz_W p l e s m args below meth c A S0 b D cA Q p3 L (ic (op x y) :: st) h → jz_W p l e s m args below meth c A S0 b D cA Q p2 L (ib y :: ia x :: st) h) : jz_EJ ic A k pc p3 (je_bin op a b) := by
  intro p l e s m args below meth c S0 bb D cA Q C L st h w h' hf hk kk
  obtain ⟨x, hx, hf⟩ := jz_bind hf
  obtain ⟨y, hy, hf⟩ := jz_bind hf
  cases hf
  refine ha p l e s m args below meth c S0 bb D cA Q C L st h x.1 x.2 hx hk ?_
  refine hb p l e s m args below meth c S0 bb D cA Q C L _ x.2 y.1 y.2 hy (by simp only [List.map_cons, List.sum_cons, hca]; omega) ?_
  exact hop p l e s m args below meth c S0 bb D cA Q C L st y.2 x.1 y.1 kk
theorem jr_iadd {A : jz_A} {k pc p1 p2 : Nat} {a b : jz_X Int32} (ha : jz_I A k pc p1 a) (hb : jz_I A (k + 1) p1 p2 b) (hd : decode A.1 p2 = .ok (.iadd, 1)) : jz_I A k pc (p2 + 1) (je_bin (· + ·) a b) :=
  jr_bin (ia := Value.int) (ib := Value.int) (ic := Value.int) (ca := 1) (p2 := p2) (fun _ => rfl) ha hb (fun _ _ _ _ _ _ _ _ _ _ _ _ _ _ C _ _ _ _ _ kk H locs ls cells slots hR hS hl hc hs => lv_iadd C.1 C.2.1 hd (kk H locs ls cells slots hR hS hl hc hs))
theorem jr_isub {A : jz_A} {k pc p1 p2 : Nat} {a b : jz_X Int32} (ha : jz_I A k pc p1 a) (hb : jz_I A (k + 1) p1 p2 b) (hd : decode A.1 p2 = .ok (.isub, 1)) : jz_I A k pc (p2 + 1) (je_bin (· - ·) a b) :=
  jr_bin (ia := Value.int) (ib := Value.int) (ic := Value.int) (ca := 1) (p2 := p2) (fun _ => rfl) ha hb (fun _ _ _ _ _ _ _ _ _ _ _ _ _ _ C _ _ _ _ _ kk H locs ls cells slots hR hS hl hc hs => lv_isub C.1 C.2.1 hd (kk H locs ls cells slots hR hS hl hc hs))
theorem jr_imul {A : jz_A} {k pc p1 p2 : Nat} {a b : jz_X Int32} (ha : jz_I A k pc p1 a) (hb : jz_I A (k + 1) p1 p2 b) (hd : decode A.1 p2 = .ok (.imul, 1)) : jz_I A k pc (p2 + 1) (je_bin (· * ·) a b) :=
  jr_bin (ia := Value.int) (ib := Value.int) (ic := Value.int) (ca := 1) (p2 := p2) (fun _ => rfl) ha hb (fun _ _ _ _ _ _ _ _ _ _ _ _ _ _ C _ _ _ _ _ kk H locs ls cells slots hR hS hl hc hs => lv_imul C.1 C.2.1 hd (kk H locs ls cells slots hR hS hl hc hs))
theorem jr_iand {A : jz_A} {k pc p1 p2 : Nat} {a b : jz_X Int32} (ha : jz_I A k pc p1 a) (hb : jz_I A (k + 1) p1 p2 b) (hd : decode A.1 p2 = .ok (.iand, 1)) : jz_I A k pc (p2 + 1) (je_bin (· &&& ·) a b) :=
  jr_bin (ia := Value.int) (ib := Value.int) (ic := Value.int) (ca := 1) (p2 := p2) (fun _ => rfl) ha hb (fun _ _ _ _ _ _ _ _ _ _ _ _ _ _ C _ _ _ _ _ kk H locs ls cells slots hR hS hl hc hs => lv_iand C.1 C.2.1 hd (kk H locs ls cells slots hR hS hl hc hs))
theorem jr_ior {A : jz_A} {k pc p1 p2 : Nat} {a b : jz_X Int32} (ha : jz_I A k pc p1 a) (hb : jz_I A (k + 1) p1 p2 b) (hd : decode A.1 p2 = .ok (.ior, 1)) : jz_I A k pc (p2 + 1) (je_bin (· ||| ·) a b) :=
  jr_bin (ia := Value.int) (ib := Value.int) (ic := Value.int) (ca := 1) (p2 := p2) (fun _ => rfl) ha hb (fun _ _ _ _ _ _ _ _ _ _ _ _ _ _ C _ _ _ _ _ kk H locs ls cells slots hR hS hl hc hs => lv_ior C.1 C.2.1 hd (kk H locs ls cells slots hR hS hl hc hs))
theorem jr_ixor {A : jz_A} {k pc p1 p2 : Nat} {a b : jz_X Int32} (ha : jz_I A k pc p1 a) (hb : jz_I A (k + 1) p1 p2 b) (hd : decode A.1 p2 = .ok (.ixor, 1)) : jz_I A k pc (p2 + 1) (je_bin (· ^^^ ·) a b) :=
  jr_bin (ia := Value.int) (ib := Value.int) (ic := Value.int) (ca := 1) (p2 := p2) (fun _ => rfl) ha hb (fun _ _ _ _ _ _ _ _ _ _ _ _ _ _ C _ _ _ _ _ kk H locs ls cells slots hR hS hl hc hs => lv_ixor C.1 C.2.1 hd (kk H locs ls cells slots hR hS hl hc hs))
theorem jr_ishl {A : jz_A} {k pc p1 p2 : Nat} {a b : jz_X Int32} (ha : jz_I A k pc p1 a) (hb : jz_I A (k + 1) p1 p2 b) (hd : decode A.1 p2 = .ok (.ishl, 1)) : jz_I A k pc (p2 + 1) (je_bin jo_shl a b) :=
  jr_bin (ia := Value.int) (ib := Value.int) (ic := Value.int) (ca := 1) (p2 := p2) (fun _ => rfl) ha hb (fun _ _ _ _ _ _ _ _ _ _ _ _ _ _ C _ _ _ _ _ kk H locs ls cells slots hR hS hl hc hs => lv_ishl C.1 C.2.1 hd (kk H locs ls cells slots hR hS hl hc hs))
theorem jr_ishr {A : jz_A} {k pc p1 p2 : Nat} {a b : jz_X Int32} (ha : jz_I A k pc p1 a) (hb : jz_I A (k + 1) p1 p2 b) (hd : decode A.1 p2 = .ok (.ishr, 1)) : jz_I A k pc (p2 + 1) (je_bin jo_shr a b) :=
  jr_bin (ia := Value.int) (ib := Value.int) (ic := Value.int) (ca := 1) (p2 := p2) (fun _ => rfl) ha hb (fun _ _ _ _ _ _ _ _ _ _ _ _ _ _ C _ _ _ _ _ kk H locs ls cells slots hR hS hl hc hs => lv_ishr C.1 C.2.1 hd (kk H locs ls cells slots hR hS hl hc hs))
theorem jr_iushr {A : jz_A} {k pc p1 p2 : Nat} {a b : jz_X Int32} (ha : jz_I A k pc p1 a) (hb : jz_I A (k + 1) p1 p2 b) (hd : decode A.1 p2 = .ok (.iushr, 1)) : jz_I A k pc (p2 + 1) (je_bin jo_ushr a b) :=
  jr_bin (ia := Value.int) (ib := Value.int) (ic := Value.int) (ca := 1) (p2 := p2) (fun _ => rfl) ha hb (fun _ _ _ _ _ _ _ _ _ _ _ _ _ _ C _ _ _ _ _ kk H locs ls cells slots hR hS hl hc hs => lv_iushr C.1 C.2.1 hd rfl (kk H locs ls cells slots hR hS hl hc hs))
theorem jr_ladd {A : jz_A} {k pc p1 p2 : Nat} {a b : jz_X Int64} (ha : jz_J A k pc p1 a) (hb : jz_J A (k + 2) p1 p2 b) (hd : decode A.1 p2 = .ok (.ladd, 1)) : jz_J A k pc (p2 + 1) (je_bin (· + ·) a b) :=
  jr_bin (ia := Value.long) (ib := Value.long) (ic := Value.long) (ca := 2) (p2 := p2) (fun _ => rfl) ha hb (fun _ _ _ _ _ _ _ _ _ _ _ _ _ _ C _ _ _ _ _ kk H locs ls cells slots hR hS hl hc hs => lv_ladd C.1 C.2.1 hd (kk H locs ls cells slots hR hS hl hc hs))
theorem jr_lmul {A : jz_A} {k pc p1 p2 : Nat} {a b : jz_X Int64} (ha : jz_J A k pc p1 a) (hb : jz_J A (k + 2) p1 p2 b) (hd : decode A.1 p2 = .ok (.lmul, 1)) : jz_J A k pc (p2 + 1) (je_bin (· * ·) a b) :=
  jr_bin (ia := Value.long) (ib := Value.long) (ic := Value.long) (ca := 2) (p2 := p2) (fun _ => rfl) ha hb (fun _ _ _ _ _ _ _ _ _ _ _ _ _ _ C _ _ _ _ _ kk H locs ls cells slots hR hS hl hc hs => lv_lmul C.1 C.2.1 hd (kk H locs ls cells slots hR hS hl hc hs))
theorem jr_land {A : jz_A} {k pc p1 p2 : Nat} {a b : jz_X Int64} (ha : jz_J A k pc p1 a) (hb : jz_J A (k + 2) p1 p2 b) (hd : decode A.1 p2 = .ok (.land, 1)) : jz_J A k pc (p2 + 1) (je_bin (· &&& ·) a b) :=
  jr_bin (ia := Value.long) (ib := Value.long) (ic := Value.long) (ca := 2) (p2 := p2) (fun _ => rfl) ha hb (fun _ _ _ _ _ _ _ _ _ _ _ _ _ _ C _ _ _ _ _ kk H locs ls cells slots hR hS hl hc hs => lv_land C.1 C.2.1 hd (kk H locs ls cells slots hR hS hl hc hs))
theorem jr_un {α β : Type} {ia : α → Value} {ib : β → Value} {A : jz_A} {k pc p1 p2 : Nat} {op : α → β} {a : jz_X α} (ha : jz_EJ ia A k pc p1 a)
    (hop : ∀ p l e s m args below meth c S0 b D cA Q, jz_C p s m args meth c A S0 b D cA → ∀ (L : jz_L) (st : List Value) (h : jz_H) (x : α), jz_W p l e s m args below meth c A S0 b D cA Q p2 L (ib (op x) :: st) h → jz_W p l e s m args below meth c A S0 b D cA Q p1 L (ia x :: st) h) : jz_EJ ib A k pc p2 (je_un op a) := by
  intro p l e s m args below meth c S0 bb D cA Q C L st h w h' hf hk kk
  obtain ⟨x, hx, hf⟩ := jz_bind hf
  cases hf
  refine ha p l e s m args below meth c S0 bb D cA Q C L st h x.1 x.2 hx hk ?_
  exact hop p l e s m args below meth c S0 bb D cA Q C L st x.2 x.1 kk
theorem jr_i2l {A : jz_A} {k pc p1 : Nat} {a : jz_X Int32} (ha : jz_I A k pc p1 a) (hd : decode A.1 p1 = .ok (.i2l, 1)) : jz_J A k pc (p1 + 1) (je_un Int32.toInt64 a) :=
  jr_un ha (fun _ _ _ _ _ _ _ _ _ _ _ _ _ _ C _ _ _ _ kk H locs ls cells slots hR hS hl hc hs => lv_i2l C.1 C.2.1 hd rfl (kk H locs ls cells slots hR hS hl hc hs))
theorem jr_l2i {A : jz_A} {k pc p1 : Nat} {a : jz_X Int64} (ha : jz_J A k pc p1 a) (hd : decode A.1 p1 = .ok (.l2i, 1)) : jz_I A k pc (p1 + 1) (je_un Int64.toInt32 a) :=
  jr_un ha (fun _ _ _ _ _ _ _ _ _ _ _ _ _ _ C _ _ _ _ kk H locs ls cells slots hR hS hl hc hs => lv_l2i C.1 C.2.1 hd rfl (kk H locs ls cells slots hR hS hl hc hs))
theorem jr_ineg {A : jz_A} {k pc p1 : Nat} {a : jz_X Int32} (ha : jz_I A k pc p1 a) (hd : decode A.1 p1 = .ok (.ineg, 1)) : jz_I A k pc (p1 + 1) (je_un (fun x => -x) a) :=
  jr_un ha (fun _ _ _ _ _ _ _ _ _ _ _ _ _ _ C _ _ _ _ kk H locs ls cells slots hR hS hl hc hs => lv_ineg C.1 C.2.1 hd (kk H locs ls cells slots hR hS hl hc hs))
theorem jr_idiv {A : jz_A} {k pc p1 p2 : Nat} {a b : jz_X Int32} (ha : jz_I A k pc p1 a) (hb : jz_I A (k + 1) p1 p2 b) (hd : decode A.1 p2 = .ok (.idiv, 1)) : jz_I A k pc (p2 + 1) (je_div (· / ·) a b) := by
  intro p l e s m args below meth c S0 bb D cA Q C L st h w h' hf hk kk
  obtain ⟨x, hx, hf⟩ := jz_bind hf
  obtain ⟨y, hy, hf⟩ := jz_bind hf
  by_cases hy0 : y.1 = 0
  · rw [if_pos hy0] at hf; cases hf
  rw [if_neg hy0] at hf
  cases hf
  refine ha p l e s m args below meth c S0 bb D cA Q C L st h x.1 x.2 hx hk ?_
  refine hb p l e s m args below meth c S0 bb D cA Q C L _ x.2 y.1 y.2 hy (by simp only [List.map_cons, List.sum_cons]; exact (by have : (Value.int x.1).category = 1 := rfl; omega)) ?_
  intro H locs ls cells slots hR hS hl hc hs
  exact lv_idiv C.1 C.2.1 hd hy0 (kk H locs ls cells slots hR hS hl hc hs)
theorem jr_irem {A : jz_A} {k pc p1 p2 : Nat} {a b : jz_X Int32} (ha : jz_I A k pc p1 a) (hb : jz_I A (k + 1) p1 p2 b) (hd : decode A.1 p2 = .ok (.irem, 1)) : jz_I A k pc (p2 + 1) (je_div jo_rem a b) := by
  intro p l e s m args below meth c S0 bb D cA Q C L st h w h' hf hk kk
  obtain ⟨x, hx, hf⟩ := jz_bind hf
  obtain ⟨y, hy, hf⟩ := jz_bind hf
  by_cases hy0 : y.1 = 0
  · rw [if_pos hy0] at hf; cases hf
  rw [if_neg hy0] at hf
  cases hf
  refine ha p l e s m args below meth c S0 bb D cA Q C L st h x.1 x.2 hx hk ?_
  refine hb p l e s m args below meth c S0 bb D cA Q C L _ x.2 y.1 y.2 hy (by simp only [List.map_cons, List.sum_cons]; exact (by have : (Value.int x.1).category = 1 := rfl; omega)) ?_
  intro H locs ls cells slots hR hS hl hc hs
  exact lv_irem C.1 C.2.1 hd hy0 (kk H locs ls cells slots hR hS hl hc hs)
theorem jr_ldiv {A : jz_A} {k pc p1 p2 : Nat} {a b : jz_X Int64} (ha : jz_J A k pc p1 a) (hb : jz_J A (k + 2) p1 p2 b) (hd : decode A.1 p2 = .ok (.ldiv, 1)) : jz_J A k pc (p2 + 1) (je_ldiv (· / ·) a b) := by
  intro p l e s m args below meth c S0 bb D cA Q C L st h w h' hf hk kk
  obtain ⟨x, hx, hf⟩ := jz_bind hf
  obtain ⟨y, hy, hf⟩ := jz_bind hf
  by_cases hy0 : y.1 = 0
  · rw [if_pos hy0] at hf; cases hf
  rw [if_neg hy0] at hf
  cases hf
  refine ha p l e s m args below meth c S0 bb D cA Q C L st h x.1 x.2 hx hk ?_
  refine hb p l e s m args below meth c S0 bb D cA Q C L _ x.2 y.1 y.2 hy (by simp only [List.map_cons, List.sum_cons]; exact (by have : (Value.long x.1).category = 2 := rfl; omega)) ?_
  intro H locs ls cells slots hR hS hl hc hs
  exact lv_ldiv C.1 C.2.1 hd hy0 (kk H locs ls cells slots hR hS hl hc hs)
theorem jr_lrem {A : jz_A} {k pc p1 p2 : Nat} {a b : jz_X Int64} (ha : jz_J A k pc p1 a) (hb : jz_J A (k + 2) p1 p2 b) (hd : decode A.1 p2 = .ok (.lrem, 1)) : jz_J A k pc (p2 + 1) (je_ldiv jo_lrem a b) := by
  intro p l e s m args below meth c S0 bb D cA Q C L st h w h' hf hk kk
  obtain ⟨x, hx, hf⟩ := jz_bind hf
  obtain ⟨y, hy, hf⟩ := jz_bind hf
  by_cases hy0 : y.1 = 0
  · rw [if_pos hy0] at hf; cases hf
  rw [if_neg hy0] at hf
  cases hf
  refine ha p l e s m args below meth c S0 bb D cA Q C L st h x.1 x.2 hx hk ?_
  refine hb p l e s m args below meth c S0 bb D cA Q C L _ x.2 y.1 y.2 hy (by simp only [List.map_cons, List.sum_cons]; exact (by have : (Value.long x.1).category = 2 := rfl; omega)) ?_
  intro H locs ls cells slots hR hS hl hc hs
  exact lv_lrem C.1 C.2.1 hd hy0 (kk H locs ls cells slots hR hS hl hc hs)
