/-! WHAT IS MADE. n0 z0 the shapes at the method's entry and their slots, rc rs the room for new ones -/
def jz_bnd (n0 z0 rc rs : Nat) (h : jz_H) : Bool := decide (h.1.length ≤ n0 + rc) && decide (jz_sz h.1 ≤ z0 + rs)
/-- a new cell of that shape, all ints 0 -/
def jz_push (sh : jz_Sh) (h : jz_H) : jz_H := (h.1 ++ [sh], fun x => if x = h.1.length then (fun _ => 0) else h.2 x)
def je_newa (n0 z0 rc rs t : Nat) (e : jz_X Int32) : jz_X Nat := fun L h => (e L h).bind fun x => if 0 ≤ x.1 ∧ x.1.toNatClampNeg ≤ 1000000 ∧ jz_bnd n0 z0 rc rs (jz_push (t, x.1.toNatClampNeg, []) x.2) = true then some (x.2.1.length, jz_push (t, x.1.toNatClampNeg, []) x.2) else none
def je_newr (n0 z0 rc rs t : Nat) (e : jz_X Int32) : jz_X Nat := fun L h => (e L h).bind fun x => if 0 ≤ x.1 ∧ x.1.toNatClampNeg ≤ 1000000 ∧ jz_bnd n0 z0 rc rs (jz_push (t, x.1.toNatClampNeg, List.replicate x.1.toNatClampNeg (some none)) x.2) = true then some (x.2.1.length, jz_push (t, x.1.toNatClampNeg, List.replicate x.1.toNatClampNeg (some none)) x.2) else none
/-- new C(..): the object, the arguments, the constructor -/
def je_new (n0 z0 rc rs ci n : Nat) (bl : List (Option (Option Nat))) (mc ms : Nat) (M : jz_M Unit) (g : jz_X (List Value)) : jz_X Nat := fun L h => if jz_bnd n0 z0 rc rs (jz_push (0, ci, bl) h) = true then (g L (jz_push (0, ci, bl) h)).bind fun x => if x.1.length = n then (M (.ref h.1.length :: x.1) x.2).bind fun q => if jz_ok mc ms x.2 q.2 = true ∧ jz_bnd n0 z0 rc rs q.2 = true then some (h.1.length, q.2) else none else none else none
/-- a final reference field is written, by its constructor -/
def jz_pr (ci k a r : Nat) (h : jz_H) : Option jz_H := match h.1[a]? with
  | some (0, c, fs) => if c = ci ∧ k < fs.length then some (h.1.set a (0, c, fs.set k (some (some r))), h.2) else none
  | _ => none
def js_putr (ci k : Nat) (a e : jz_X Nat) : jz_S := fun L h => (a L h).bind fun x => (e L x.2).bind fun y => (jz_pr ci k x.1 y.1 y.2).bind fun z => some (.inl (L, z))
/-- an element of an array of references is written with an object of class ci -/
def jz_sr (t ci a : Nat) (i : Int32) (r : Nat) (h : jz_H) : Option jz_H := match h.1[a]? with
  | some (u, n, fs) => (match h.1[r]? with
    | some (0, c, _) => if u = t ∧ c = ci ∧ jz_in i n = true ∧ fs.length = n then some (h.1.set a (u, n, fs.set i.toNatClampNeg (some (some r))), h.2) else none
    | _ => none)
  | _ => none
def js_str (t ci : Nat) (a : jz_X Nat) (i : jz_X Int32) (e : jz_X Nat) : jz_S := fun L h => (a L h).bind fun x => (i L x.2).bind fun y => (e L y.2).bind fun w => (jz_sr t ci x.1 y.1 w.1 w.2).bind fun z => some (.inl (L, z))
theorem jz_pr_some {ci k a r : Nat} {h h' : jz_H} (hf : jz_pr ci k a r h = some h') : ∃ fs, h.1[a]? = some (0, ci, fs) ∧ k < fs.length ∧ h' = (h.1.set a (0, ci, fs.set k (some (some r))), h.2) := by
  unfold jz_pr at hf
  split at hf
  · next c fs hs =>
    split at hf
    · next hc => cases hf; obtain ⟨rfl, h2⟩ := hc; exact ⟨fs, hs, h2, rfl⟩
    · cases hf
  · cases hf
theorem jz_sr_some {t ci a r : Nat} {i : Int32} {h h' : jz_H} (hf : jz_sr t ci a i r h = some h') : ∃ n fs f0, h.1[a]? = some (t, n, fs) ∧ h.1[r]? = some (0, ci, f0) ∧ jz_in i n = true ∧ fs.length = n ∧ h' = (h.1.set a (t, n, fs.set i.toNatClampNeg (some (some r))), h.2) := by
  unfold jz_sr at hf
  split at hf
  · next u n fs hs =>
    split at hf
    · next c f0 hr =>
      split at hf
      · next hc => cases hf; obtain ⟨rfl, rfl, h2, h3⟩ := hc; exact ⟨n, fs, f0, hs, hr, h2, h3, rfl⟩
      · cases hf
    · cases hf
  · cases hf
def js_new (e : jz_X Nat) (s : Nat → jz_S) : jz_S := fun L h => (e L h).bind fun x => s x.1 L x.2
theorem jz_ws_push0 {S0 : Nat} {cA : Nat → ClassId} {h : jz_H} {sh : jz_Sh} : jz_ws S0 cA h ++ [(S0 + h.1.length, jz_E S0 cA sh (fun _ => 0))] = jz_ws S0 cA (jz_push sh h) := by
  unfold jz_ws jz_push
  rw [List.mapIdx_append]
  congr 1
  · apply List.ext_getElem?
    intro i
    rw [List.getElem?_mapIdx, List.getElem?_mapIdx]
    cases hs : h.1[i]? with
    | none => rfl
    | some x =>
      have hi := (List.getElem?_eq_some_iff.mp hs).1
      simp only [Option.map_some, if_neg (Nat.ne_of_lt hi)]
  · simp
theorem jz_sz_push {sh : jz_Sh} {h : jz_H} : jz_sz (jz_push sh h).1 = jz_sz h.1 + jz_n sh := by simp [jz_push, jz_sz]
theorem jz_len_push {sh : jz_Sh} {h : jz_H} : (jz_push sh h).1.length = h.1.length + 1 := by simp [jz_push]
/-- the new cell's address -/
theorem jz_adr {p : Program} {l : Launch} {e : Env} {s : State} {m : MethodId} {args : Array Value} {below : List Frame} {meth : Method} {c : Code} {A : jz_A} {S0 b : Nat} {D : va_G} {cA : Nat → ClassId} {Q : State → Prop} {h : jz_H} {H1 : Heap} {locs : List Loc} {cells slots q : Nat} {E : va_E} {g : JFrame} (C : jz_C p s m args meth c A S0 b D cA) (hc : cells + A.2.2.2.2.1 = h.1.length) (hP : va_P D vwCl (jz_ws S0 cA h ++ [(q, E)]) H1) (hD : va_D (fun q => S0 ≤ q) (jz_ws S0 cA h ++ [(q, E)]))
    (k : q = S0 + h.1.length → W p l e A.2.2.2.1 s m args below meth c H1 locs (cells + 1) slots Q g) : W p l e A.2.2.2.1 s m args below meth c H1 locs (cells + 1) slots Q g := by
  intro T hT X
  refine k ?_ T hT X
  have h1 : T.heap.size ≤ s.heap.size + (cells + 1) := X.same.2.2.1
  rw [hT] at h1
  have h3 := C.2.2.2.2.2.2.1
  have hq : (jz_ws S0 cA h ++ [(q, E)])[h.1.length]? = some (q, E) := by
    rw [List.getElem?_append_right (by rw [jz_ws_len]; exact Nat.le_refl _), jz_ws_len]; simp
  have h4 : q < H1.size := (hP _ _ hq).lt
  have h5 : S0 ≤ q := hD.2 _ _ hq
  rcases Nat.lt_or_ge q (S0 + h.1.length) with hlt | hge
  · exfalso
    obtain ⟨sh, hsh⟩ : ∃ sh, h.1[q - S0]? = some sh := ⟨_, List.getElem?_eq_getElem (by omega)⟩
    have h6 : (jz_ws S0 cA h ++ [(q, E)])[q - S0]? = some (S0 + (q - S0), jz_E S0 cA sh (h.2 (q - S0))) := by
      rw [List.getElem?_append_left (by rw [jz_ws_len]; omega)]; exact jz_ws_get hsh
    have h7 := hD.1 _ _ _ _ h6 hq (by show S0 + (q - S0) = q; omega)
    omega
  · omega
theorem jz_bnd_of {n0 z0 rc rs : Nat} {h : jz_H} (hb : jz_bnd n0 z0 rc rs h = true) : h.1.length ≤ n0 + rc ∧ jz_sz h.1 ≤ z0 + rs := by
  unfold jz_bnd at hb
  simpa using hb
theorem jr_newa {A : jz_A} {k pc p1 : Nat} {e : jz_X Int32} (t : Nat) {atype : ArrayType} {ty : FieldType} (hty : newarray.typeOf atype = ty) (hw : Cond.arrayClass (newarray.typeOf atype) ∈ jz_tb) (ht : ∀ cA, (jz_tys cA)[t]? = some (cA t, ty)) (hE : ∀ S0 cA n f, jz_E S0 cA (t + 1, n, []) f = .inl (cA t, n, .inl f)) (hdef : defaultValue ty = .int 0) (hprim : ∀ U c, va_RA U c ty → U.vm.findClass ("[" ++ ty.toString) = some c) (hby : componentBytes ty ≤ 8)
    (he : jz_I A k pc p1 e) (hd : decode A.1 p1 = .ok (.newarray atype, 2)) : jz_F A k pc (p1 + 2) (je_newa A.2.2.2.2.1 A.2.2.2.2.2.1 A.2.2.2.1.cells A.2.2.2.1.slots (t + 1) e) := by
  intro p l en s m args below meth c S0 b D cA Q C L st h w h' hf hk kk
  obtain ⟨x, hx, hf⟩ := jz_bind hf
  split at hf
  case isFalse => cases hf
  rename_i hcond
  obtain ⟨hx0, hxs, hb⟩ := hcond
  cases hf
  obtain ⟨hb1, hb2⟩ := jz_bnd_of hb
  rw [jz_len_push] at hb1
  rw [jz_sz_push] at hb2
  have hn : jz_n (t + 1, x.1.toNatClampNeg, []) = x.1.toNatClampNeg := by simp [jz_n]
  rw [hn] at hb2
  refine he p l en s m args below meth c S0 b D cA Q C L st h x.1 x.2 hx hk ?_
  intro H locs ls cells slots hR hS hl hc hs
  have hA : ∀ q, s.heap.size ≤ q → S0 ≤ q := fun q hq => by have := C.2.2.2.2.2.2.1; omega
  refine va_newa (atype := atype) (ty := ty) (a0 := (x.1.toNatClampNeg, .inl (fun _ => 0))) (N' := x.1.toNatClampNeg) C.1 C.2.1 (C.2.2.2.2.1 _ hw) hty C.2.2.2.2.2.1.1 hR (jz_D S0 cA x.2) hS hA (fun cA' => by rw [hdef]; rfl) (Int32.not_lt.mpr hx0) rfl ?_ ?_ ?_ hd (fun q cA' H1 hK1 hP1 hD1 hS1 => ?_)
  · calc x.1.toNatClampNeg * componentBytes ty ≤ 1000000 * 8 := Nat.mul_le_mul hxs hby
      _ ≤ 536870912 := by decide
  · omega
  · have := hs.1; omega
  · refine jz_adr C hc hP1 hD1 (fun hq => ?_)
    subst hq
    have h1 := (hK1.2 4 (cA', ty) rfl).2
    have h2 := (C.2.2.2.2.2.1.1.2 t _ (ht cA)).2
    have h3 : cA' = cA t := Option.some.inj ((hprim _ _ h1).symm.trans (hprim _ _ h2))
    subst h3
    rw [← hE S0 cA x.1.toNatClampNeg (fun _ => 0), jz_ws_push0] at hP1
    refine kk H1 locs ls (cells + 1) (slots + x.1.toNatClampNeg) hP1 hS1 hl ?_ ⟨?_, ?_, ?_⟩
    · rw [jz_len_push]; omega
    · rw [jz_sz_push, hn]; have := hs.1; omega
    · omega
    · have := hs.1; omega
theorem jr_newr {A : jz_A} {k pc p1 i : Nat} {e : jz_X Int32} (t : Nat) {C0 : String} (hcw : Cond.classLink A.2.2.1 i C0 ∈ jz_tb) (hao : ∀ D cA U, jz_K D cA U → va_AO C0 U) (ht : ∀ cA, (jz_tys cA)[t + 2]? = some (cA (t + 2), .object C0))
    (he : jz_I A k pc p1 e) (hd : decode A.1 p1 = .ok (.anewarray i, 3)) : jz_F A k pc (p1 + 3) (je_newr A.2.2.2.2.1 A.2.2.2.2.2.1 A.2.2.2.1.cells A.2.2.2.1.slots (t + 3) e) := by
  intro p l en s m args below meth c S0 b D cA Q C L st h w h' hf hk kk
  obtain ⟨x, hx, hf⟩ := jz_bind hf
  split at hf
  case isFalse => cases hf
  rename_i hcond
  obtain ⟨hx0, hxs, hb⟩ := hcond
  cases hf
  obtain ⟨hb1, hb2⟩ := jz_bnd_of hb
  rw [jz_len_push] at hb1
  rw [jz_sz_push] at hb2
  have hn : jz_n (t + 3, x.1.toNatClampNeg, List.replicate x.1.toNatClampNeg (some none)) = x.1.toNatClampNeg := by simp [jz_n]
  rw [hn] at hb2
  refine he p l en s m args below meth c S0 b D cA Q C L st h x.1 x.2 hx hk ?_
  intro H locs ls cells slots hR hS hl hc hs
  have hA : ∀ q, s.heap.size ≤ q → S0 ≤ q := fun q hq => by have := C.2.2.2.2.2.2.1; omega
  refine va_newq (N' := x.1.toNatClampNeg) C.1 C.2.1 C.2.2.2.1 (C.2.2.2.2.1 _ hcw) (hao D cA s C.2.2.2.2.2.1) C.2.2.2.2.2.1.1 hR (jz_D S0 cA x.2) hS hA (Int32.not_lt.mpr hx0) rfl (by omega) ?_ ?_ hd (fun q cA' H1 hK1 hP1 hD1 hS1 => ?_)
  · omega
  · have := hs.1; omega
  · refine jz_adr C hc hP1 hD1 (fun hq => ?_)
    subst hq
    obtain ⟨-, -, -, -, -, h1⟩ := (hK1.2 4 (cA', .object C0) rfl).2
    obtain ⟨-, -, -, -, -, h2⟩ := (C.2.2.2.2.2.1.1.2 (t + 2) _ (ht cA)).2
    have h3 : cA' = cA (t + 2) := Option.some.inj (h1.symm.trans h2)
    subst h3
    have hE : jz_E S0 cA (t + 3, x.1.toNatClampNeg, List.replicate x.1.toNatClampNeg (some none)) (fun _ => 0) = .inl (cA (t + 2), x.1.toNatClampNeg, .inr (.inr (.inr (.inr (fun _ => none))))) := by
      show (Sum.inl _ : va_E) = _
      have hz : jz_ra S0 (List.replicate x.1.toNatClampNeg (some none)) = fun _ => none := by
        funext j
        unfold jz_ra
        rw [List.getElem?_replicate]
        by_cases hj : j < x.1.toNatClampNeg <;> simp [hj]
      rw [hz]
    rw [← hE, jz_ws_push0] at hP1
    refine kk H1 locs ls (cells + 1) (slots + x.1.toNatClampNeg) hP1 hS1 hl ?_ ⟨?_, ?_, ?_⟩
    · rw [jz_len_push]; omega
    · rw [jz_sz_push, hn]; have := hs.1; omega
    · omega
    · have := hs.1; omega
def jz_fv0 (o : Option (Option Nat)) : Value := match o with
  | none => .int 0
  | some _ => .null
theorem jz_fv0_eq {S0 : Nat} {bl : List (Option (Option Nat))} (hno : ∀ o ∈ bl, o = none ∨ o = some none) (j : Nat) : vp_V (bl.mapIdx (jz_fv S0 (fun _ => 0))) j = (bl.map jz_fv0).getD j .null := by
  unfold vp_V
  rw [List.getD_eq_getElem?_getD, List.getD_eq_getElem?_getD, List.getElem?_mapIdx, List.getElem?_map]
  cases hs : bl[j]? with
  | none => rfl
  | some o =>
    rcases hno o (List.mem_of_getElem? hs) with rfl | rfl <;> rfl
/-- the instruction new -/
theorem jz_newo {p : Program} {l : Launch} {e : Env} {s : State} {m : MethodId} {args : Array Value} {below : List Frame} {meth : Method} {c : Code} {A : jz_A} {S0 b : Nat} {D : va_G} {cA : Nat → ClassId} {Q : State → Prop} {pc i ci N : Nat} {L : jz_L} {st : List Value} {h : jz_H} {Cn : String} {T : u_T} {bl : List (Option (Option Nat))} (C : jz_C p s m args meth c A S0 b D cA) (ty0 : Nat → FieldType) (hty : ∀ k, k < N → parseFieldDescriptor (T k).2.2.1 = some (ty0 k)) (hcl : vwCl[ci]? = some (Cn, T, N)) (hin : ∀ w ∈ u_ws Cn T N, w ∈ jz_tb) (hno : ∀ o ∈ bl, o = none ∨ o = some none) (hbl : ∀ j, j < N → defaultValue (ty0 j) = (bl.map jz_fv0).getD j .null) (hN : bl.length = N)
    (w1 : Cond.classLink A.2.2.1 i Cn ∈ jz_tb) (w2 : Cond.instantiable Cn N ∈ jz_tb) (w3 : Cond.initialized Cn ∈ jz_tb) (hb : jz_bnd A.2.2.2.2.1 A.2.2.2.2.2.1 A.2.2.2.1.cells A.2.2.2.1.slots (jz_push (0, ci, bl) h) = true) (hd : decode A.1 pc = .ok (.new i, 3))
    (kk : jz_W p l e s m args below meth c A S0 b D cA Q (pc + 3) L (.ref h.1.length :: st) (jz_push (0, ci, bl) h)) : jz_W p l e s m args below meth c A S0 b D cA Q pc L st h := by
  obtain ⟨hb1, hb2⟩ := jz_bnd_of hb
  rw [jz_len_push] at hb1
  rw [jz_sz_push] at hb2
  have hn : jz_n (0, ci, bl) = N := by simp [jz_n, hN]
  rw [hn] at hb2
  intro H locs ls cells slots hR hS hl hc hs
  have hA : ∀ q, s.heap.size ≤ q → S0 ≤ q := fun q hq => by have := C.2.2.2.2.2.2.1; omega
  refine va_new (ci := ci) (fs := bl.mapIdx (jz_fv S0 (fun _ => 0))) C.1 C.2.1 C.2.2.2.2.1 hin ty0 hty C.2.2.2.1 (C.2.2.2.2.1 _ w1) (C.2.2.2.2.1 _ w2) (C.2.2.2.2.1 _ w3) C.2.2.2.2.2.1.1 hR (jz_D S0 cA h) hS hA hcl (fun j hj => by rw [jz_fv0_eq hno]; exact hbl j hj) ?_ ?_ hd (fun q H1 hP1 hD1 hS1 => ?_)
  · omega
  · have := hs.1; omega
  · refine jz_adr C hc hP1 hD1 (fun hq => ?_)
    subst hq
    have hE : (Sum.inr (ci, bl.mapIdx (jz_fv S0 (fun _ => 0))) : va_E) = jz_E S0 cA (0, ci, bl) (fun _ => 0) := rfl
    rw [hE, jz_ws_push0] at hP1
    refine kk H1 locs ls (cells + 1) (slots + N) hP1 hS1 hl ?_ ⟨?_, ?_, ?_⟩
    · rw [jz_len_push]; omega
    · rw [jz_sz_push, hn]; have := hs.1; omega
    · omega
    · have := hs.1; omega
/-- behind the constructor's call -/
theorem jr_new {A : jz_A} {k pc p1 i ci N idx n nL : Nat} {Cn : String} {T : u_T} {bl : List (Option (Option Nat))} {y : MethodName} {cc : ByteArray} {rm : Room} {M : jz_M Unit} {g : jz_X (List Value)} (hM : jz_MV y cc nL rm M) (ty0 : Nat → FieldType) (hty : ∀ k, k < N → parseFieldDescriptor (T k).2.2.1 = some (ty0 k)) (hcl : vwCl[ci]? = some (Cn, T, N)) (hin : ∀ w ∈ u_ws Cn T N, w ∈ jz_tb) (hno : ∀ o ∈ bl, o = none ∨ o = some none) (hbl : ∀ j, j < N → defaultValue (ty0 j) = (bl.map jz_fv0).getD j .null) (hN : bl.length = N)
    (w1 : Cond.classLink A.2.2.1 i Cn ∈ jz_tb) (w2 : Cond.instantiable Cn N ∈ jz_tb) (w3 : Cond.initialized Cn ∈ jz_tb) (hd : decode A.1 pc = .ok (.new i, 3)) (hd2 : decode A.1 (pc + 3) = .ok (.dup, 1)) (hg : jz_G A (k + 2) (pc + 4) p1 g) (hd3 : decode A.1 p1 = .ok (.invokespecial idx, 3)) (hk8 : k + 1 ≤ 8) (hn : jz_nm y n) (hyi : y.name = "<init>") (hyc : y.cls = Cn)
    (hlink : (Cond.methodLink A.2.2.1 idx y ∈ jz_tb) ∨ ∃ host, Cond.methodLinkNest A.2.2.1 idx y host ∈ jz_nest) (v2 : Cond.instanceMethod y ∈ jz_tb) (v5 : Cond.code y cc nL none ∈ jz_tb) (hR : rm.frames + 1 ≤ A.2.2.2.1.frames ∧ 8 + (nL + 11) + rm.locals ≤ A.2.2.2.1.locals) : jz_F A k pc (p1 + 3) (je_new A.2.2.2.2.1 A.2.2.2.2.2.1 A.2.2.2.1.cells A.2.2.2.1.slots ci n bl rm.cells rm.slots M g) := by
  intro p l e s m args below meth c S0 bb D cA Q Cx L st h w h' hf hk kk
  unfold je_new at hf
  split at hf
  case isFalse => cases hf
  rename_i hb
  obtain ⟨x, hx, hf⟩ := jz_bind hf
  split at hf
  case isFalse => cases hf
  rename_i hxn
  obtain ⟨q, hq, hf⟩ := jz_bind hf
  split at hf
  case isFalse => cases hf
  rename_i hok
  obtain ⟨hok, hbq⟩ := hok
  cases hf
  refine jz_newo Cx ty0 hty hcl hin hno hbl hN w1 w2 w3 hb hd ?_
  intro H locs ls cells slots hR1 hS hl hc hs
  refine lv_dup Cx.1 Cx.2.1 hd2 rfl ?_
  refine hg p l e s m args below meth c S0 bb D cA Q Cx L (.ref h.1.length :: .ref h.1.length :: st) (jz_push (0, ci, bl) h) x.1 x.2 hx (by simp only [List.map_cons, List.sum_cons]; exact (by have : (Value.ref h.1.length).category = 1 := rfl; omega)) ?_ H locs ls cells slots hR1 hS hl hc hs
  intro H locs ls cells slots hR1 hS hl hc hs
  refine jz_szw Cx hR1 hc (fun hsz => ?_)
  obtain ⟨ho1, ho2⟩ := jz_ok_len hok
  obtain ⟨hb1, hb2⟩ := jz_bnd_of hbq
  have hm := hM l S0 bb D cA (.ref h.1.length :: x.1) x.2 q.2 hq hok
  have hst : (x.1.reverse ++ .ref h.1.length :: .ref h.1.length :: st).map (jz_rho S0 bb) = (x.1.map (jz_rho S0 bb)).reverse ++ .ref (S0 + h.1.length) :: (.ref h.1.length :: st).map (jz_rho S0 bb) := by simp [jz_rho]
  rw [hst]
  have hroom : ((((Value.ref h.1.length :: st).map (jz_rho S0 bb)).map fun v => v.category).sum) ≤ 8 := by
    rw [jz_catm]
    simp only [List.map_cons, List.sum_cons]
    have : (Value.ref h.1.length).category = 1 := rfl
    omega
  have hpre : PreS s H (jz_Pc S0 bb D cA (.ref h.1.length :: x.1) x.2) (.ref (S0 + h.1.length) :: x.1.map (jz_rho S0 bb)) := ⟨jz_blind S0 bb D cA _ x.2, fun U hU hW => ⟨rfl, by rw [hU]; exact hR1, Cx.2.2.2.2.2.1.warm hW, by rw [hU]; exact hsz⟩⟩
  have hcells : cells + rm.cells ≤ A.2.2.2.1.cells ∧ slots + rm.slots ≤ A.2.2.2.1.slots := ⟨by omega, by have := hs.1; omega⟩
  have hrun : va_Run p l e A.2.2.2.1 s m args below meth c H locs cells slots rm.cells rm.slots (F0 m p1 ls ((x.1.map (jz_rho S0 bb)).reverse ++ .ref (S0 + h.1.length) :: (.ref h.1.length :: st).map (jz_rho S0 bb))) ((.ref h.1.length :: st).map (jz_rho S0 bb)) (jz_Qv S0 D cA q.2 (Value.ref (S0 + h.1.length) :: x.1.map (jz_rho S0 bb)).toArray) (fun q => S0 ≤ q) := by
    rcases hlink with hlk | ⟨host, hlk⟩
    · exact va_runI (b := S0 + h.1.length) (As := x.1.map (jz_rho S0 bb)) (rest := (.ref h.1.length :: st).map (jz_rho S0 bb)) (jz_fix Cx) hm ⟨jz_callB Cx hn hlk (by rw [hyc]; exact w3) v5 hR, hyi, Cx.2.2.2.2.1 _ v2⟩ hpre rfl (by rw [List.length_map]; exact hxn) hl.1 rfl (lv_room hroom) hd3 hcells
    · exact va_runIN (host := host) (b := S0 + h.1.length) (As := x.1.map (jz_rho S0 bb)) (rest := (.ref h.1.length :: st).map (jz_rho S0 bb)) (jz_fix Cx) hm ⟨va_cnB n Cx.2.2.2.2.1 (jz_goodc v5) rfl rfl rfl (Cx.2.2.2.2.2.1.2.1 _ hlk) (Cx.2.2.2.2.1 _ (by rw [hyc]; exact w3)) hn hR, hyi, Cx.2.2.2.2.1 _ v2⟩ hpre rfl (by rw [List.length_map]; exact hxn) hl.1 rfl (lv_room hroom) hd3 hcells
  refine jz_backv hrun hS hl ?_ ?_ kk
  · rw [ho1]; omega
  · refine ⟨?_, ?_, ?_⟩
    · rw [ho2]; have := hs.1; omega
    · omega
    · have := hs.1; omega
/-- the constructor of Object -/
def js_obj : jz_S := fun L h => (je_lor 0 L h).bind fun x => some (.inl (L, x.2))
theorem jt_obj {A : jz_A} {pc idx : Nat} (hd0 : decode A.1 pc = .ok (.aload_n 0, 1)) (hd : decode A.1 (pc + 1) = .ok (.invokespecial idx, 3)) (w1 : Cond.methodLink A.2.2.1 idx objectInit ∈ jz_tb) (w2 : Cond.instanceMethod objectInit ∈ jz_tb) (w5 : Cond.code objectInit ⟨#[0xb1]⟩ 1 none ∈ jz_tb) (hR : 1 ≤ A.2.2.2.1.frames ∧ 12 ≤ A.2.2.2.1.locals) : jz_T A pc (pc + 4) js_obj := by
  intro p l e s m args below meth c S0 b D cA Q C L h o hf kk
  obtain ⟨y, hy, hf⟩ := jz_bind hf
  cases hf
  obtain ⟨h1, h2⟩ := je_lor_some hy
  rw [h2] at kk
  intro H locs ls cells slots hR1 hS hl hc hs
  refine lv_aload_n C.1 C.2.1 hd0 rfl (jz_lvat hl h1 jz_c1) ?_
  refine W.objInit C.1 C.2.1 C.2.2.2.1 (C.2.2.2.2.1 _ w1) (C.2.2.2.2.1 _ w2) (C.2.2.2.2.1 _ w5) rfl (by rw [C.2.2.1]; exact hl.1) rfl hd hR.1 hR.2 ?_
  refine W.eq (g2 := F0 m (pc + 4) ls []) rfl ?_
  exact kk H locs ls cells slots hR1 hS hl hc hs
theorem jz_fvsetr {S0 : Nat} {f : Nat → Int32} {fs : List (Option (Option Nat))} {k r : Nat} (hk : k < fs.length) : (fs.mapIdx (jz_fv S0 f)).set k (.ref (S0 + r)) = (fs.set k (some (some r))).mapIdx (jz_fv S0 f) := by
  apply List.ext_getElem?
  intro i
  by_cases hi : i = k
  · subst hi
    rw [List.getElem?_set_self (by rw [List.length_mapIdx]; exact hk), List.getElem?_mapIdx, List.getElem?_set_self hk]
    rfl
  · rw [List.getElem?_set_ne (fun z => hi z.symm), List.getElem?_mapIdx, List.getElem?_mapIdx, List.getElem?_set_ne (fun z => hi z.symm)]
theorem jt_putr {A : jz_A} {pc p1 p2 ci i N : Nat} {Cn : String} {T : u_T} {a e : jz_X Nat} (j : Nat) (ty0 : Nat → FieldType) (hty : ∀ k, k < N → parseFieldDescriptor (T k).2.2.1 = some (ty0 k)) (hnm : ∀ a, a < N → ∀ b, b < N → a ≠ b → (T a).2.1 ≠ (T b).2.1) (hcl : vwCl[ci]? = some (Cn, T, N)) (hin : ∀ w ∈ u_ws Cn T N, w ∈ jz_tb) (hj : j < N) (hw : Cond.fieldLink A.2.2.1 i (T j).1 (T j).2.1 (T j).2.2.1 ∈ jz_tb) (hfin : (T j).2.2.2 = true) (hini : A.2.2.2.2.2.2.1 = "<init>") (hdecl : (T j).1 = A.2.2.1) {ty : FieldType} (hdesc : parseFieldDescriptor (T j).2.2.1 = some ty) (hnar : ∀ q, narrow ty (.ref q) = .ref q) (hfit : ∀ q, fits ty (.ref q) = true)
    (ha : jz_F A 0 pc p1 a) (he : jz_F A 1 p1 p2 e) (hd : decode A.1 p2 = .ok (.putfield i, 3)) : jz_T A pc (p2 + 3) (js_putr ci j a e) := by
  intro p l en s m args below meth c S0 bb D cA Q C L h o hf kk
  obtain ⟨x, hx, hf⟩ := jz_bind hf
  obtain ⟨y, hy, hf⟩ := jz_bind hf
  refine ha p l en s m args below meth c S0 bb D cA Q C L [] h x.1 x.2 hx (Nat.le_refl _) ?_
  refine he p l en s m args below meth c S0 bb D cA Q C L _ x.2 y.1 y.2 hy (Nat.le_refl _) ?_
  obtain ⟨z, hz, hf⟩ := jz_bind hf
  cases hf
  obtain ⟨fs, hs, hk, rfl⟩ := jz_pr_some hz
  intro H locs ls cells slots hR hS hl hc hss
  refine va_putF (ci := ci) (v := .ref (S0 + y.1)) C.1 C.2.1 C.2.2.2.2.1 hin ty0 hty hnm C.2.2.2.1 C.2.2.2.2.2.1.1 hR (jz_D S0 cA y.2) hS x.1 (jz_ws_get hs) hcl j hj (C.2.2.2.2.1 _ hw) (fun _ h9 => h9) hfin (C.2.2.2.2.2.2.2.1.trans hini) hdecl hdesc (hnar _) (hfit _) (by rw [List.length_mapIdx]; exact hk) hd (fun H1 locs1 hP1 hD1 hS1 => ?_)
  have hsh := jz_ws_sh (S0 := S0) (cA := cA) (sh' := (0, ci, fs.set j (some (some y.1)))) hs
  have hE : (jz_E S0 cA (0, ci, fs.set j (some (some y.1))) (y.2.2 x.1)) = .inr (ci, (fs.mapIdx (jz_fv S0 (y.2.2 x.1))).set j (.ref (S0 + y.1))) := by rw [jz_fvsetr hk]; rfl
  rw [hE] at hsh
  rw [hsh] at hP1
  have hlen : (y.2.1.set x.1 (0, ci, fs.set j (some (some y.1)))).length = y.2.1.length := List.length_set
  have hsz : jz_sz (y.2.1.set x.1 (0, ci, fs.set j (some (some y.1)))) = jz_sz y.2.1 := by
    obtain ⟨hlt, hge⟩ := List.getElem?_eq_some_iff.mp hs
    unfold jz_sz
    rw [List.map_set]
    have h9 : jz_n (0, ci, fs.set j (some (some y.1))) = (y.2.1.map jz_n)[x.1]'(by simpa using hlt) := by simp [hge, jz_n]
    rw [h9, List.set_getElem_self]
  refine kk H1 locs1 ls cells slots hP1 hS1 hl (by rw [hlen]; exact hc) (by rw [hsz]; exact hss)
theorem jz_raset {S0 : Nat} {fs : List (Option (Option Nat))} {k r : Nat} (hk : k < fs.length) : va_up (jz_ra S0 fs) k (some (S0 + r)) = jz_ra S0 (fs.set k (some (some r))) := by
  funext j
  unfold va_up jz_ra
  by_cases hj : j = k
  · subst hj; rw [if_pos rfl, List.getElem?_set_self hk]
  · rw [if_neg hj, List.getElem?_set_ne (fun z => hj z.symm)]
theorem jt_aastore {A : jz_A} {pc p1 p2 p3 ci N : Nat} {Cn : String} {T : u_T} {a e : jz_X Nat} {i : jz_X Int32} (t : Nat) (hcl : vwCl[ci]? = some (Cn, T, N)) (ht : ∀ cA, (jz_tys cA)[t + 2]? = some (cA (t + 2), .object Cn)) (ha : jz_F A 0 pc p1 a) (hi : jz_I A 1 p1 p2 i) (he : jz_F A 2 p2 p3 e) (hd : decode A.1 p3 = .ok (.aastore, 1)) : jz_T A pc (p3 + 1) (js_str (t + 3) ci a i e) := by
  intro p l en s m args below meth c S0 bb D cA Q C L h o hf kk
  obtain ⟨x, hx, hf⟩ := jz_bind hf
  obtain ⟨y, hy, hf⟩ := jz_bind hf
  obtain ⟨w, hw, hf⟩ := jz_bind hf
  refine ha p l en s m args below meth c S0 bb D cA Q C L [] h x.1 x.2 hx (Nat.le_refl _) ?_
  refine hi p l en s m args below meth c S0 bb D cA Q C L _ x.2 y.1 y.2 hy (Nat.le_refl _) ?_
  refine he p l en s m args below meth c S0 bb D cA Q C L _ y.2 w.1 w.2 hw (Nat.le_refl _) ?_
  obtain ⟨z, hz, hf⟩ := jz_bind hf
  cases hf
  obtain ⟨n, fs, fs0, hs, hs0, hin, hfl, rfl⟩ := jz_sr_some hz
  have hvin := jz_in_vp hin
  have hk : y.1.toNatClampNeg < fs.length := by
    rw [hfl]
    exact Nat.lt_of_not_le (fun z => hvin (Or.inr z))
  intro H locs ls cells slots hR hS hl hc hss
  refine va_astq (r := (Cn, T, N)) (f := jz_ra S0 fs) C.1 C.2.1 C.2.2.2.2.2.1.1 hR (jz_D S0 cA w.2) hS x.1 (t + 2) w.1 ci (jz_ws_get hs) (ht cA) (jz_ws_get hs0) hcl hvin hd (fun H1 locs1 hP1 hD1 hS1 => ?_)
  have hsh := jz_ws_sh (S0 := S0) (cA := cA) (sh' := (t + 3, n, fs.set y.1.toNatClampNeg (some (some w.1)))) hs
  have hE : (jz_E S0 cA (t + 3, n, fs.set y.1.toNatClampNeg (some (some w.1))) (w.2.2 x.1)) = .inl (cA (t + 2), n, .inr (.inr (.inr (.inr (va_up (jz_ra S0 fs) y.1.toNatClampNeg (some (S0 + w.1))))))) := by rw [jz_raset hk]; rfl
  rw [hE] at hsh
  rw [hsh] at hP1
  have hlen : (w.2.1.set x.1 (t + 3, n, fs.set y.1.toNatClampNeg (some (some w.1)))).length = w.2.1.length := List.length_set
  have hsz : jz_sz (w.2.1.set x.1 (t + 3, n, fs.set y.1.toNatClampNeg (some (some w.1)))) = jz_sz w.2.1 := by
    obtain ⟨hlt, hge⟩ := List.getElem?_eq_some_iff.mp hs
    unfold jz_sz
    rw [List.map_set]
    have h9 : jz_n (t + 3, n, fs.set y.1.toNatClampNeg (some (some w.1))) = (w.2.1.map jz_n)[x.1]'(by simpa using hlt) := by simp [hge, jz_n]
    rw [h9, List.set_getElem_self]
  refine kk H1 locs1 ls cells slots hP1 hS1 hl (by rw [hlen]; exact hc) (by rw [hsz]; exact hss)
/-! the law's script -/
def je_scr (Ln : Nat) (xs : Nat → Int32) (i : jz_X Int32) : jz_X Int32 := fun (L : jz_L) (h : jz_H) => match L[0]? with
  | some (some Value.null) => (i L h).bind fun y => if jz_in y.1 Ln = true then some (xs y.1.toNatClampNeg, y.2) else none
  | _ => none
def je_scl (Ln : Nat) : jz_X Int32 := fun (L : jz_L) (h : jz_H) => match L[0]? with
  | some (some Value.null) => some (Int32.ofNat Ln, h)
  | _ => none
theorem jr_scl {A : jz_A} {k pc Ln : Nat} {xs : Nat → Int32} (hsc : A.2.2.2.2.2.2.2 = some (Ln, xs)) (hd0 : decode A.1 pc = .ok (.aload_n 0, 1)) (hd : decode A.1 (pc + 1) = .ok (.arraylength, 1)) : jz_I A k pc (pc + 2) (je_scl Ln) := by
  intro p l e s m args below meth c S0 b D cA Q C L st h w h' hf hk kk H locs ls cells slots hR hS hl hc hs
  unfold je_scl at hf
  split at hf
  case h_2 => cases hf
  rename_i h1
  cases hf
  obtain ⟨hX, hbl, hb0⟩ := C.2.2.2.2.2.2.2.2 Ln xs hsc
  refine lv_aload_n (x := b) C.1 C.2.1 hd0 rfl (jz_lvat hl h1 jz_c1) ?_
  exact va_slen C.1 C.2.1 hX hbl (Nat.not_le.mpr hb0) hS hd (kk H locs ls cells slots hR hS hl hc hs)
theorem jr_scr {A : jz_A} {k pc p1 Ln : Nat} {xs : Nat → Int32} {i : jz_X Int32} (hsc : A.2.2.2.2.2.2.2 = some (Ln, xs)) (hd0 : decode A.1 pc = .ok (.aload_n 0, 1)) (hi : jz_I A (k + 1) (pc + 1) p1 i) (hd : decode A.1 p1 = .ok (.iaload, 1)) : jz_I A k pc (p1 + 1) (je_scr Ln xs i) := by
  intro p l e s m args below meth c S0 b D cA Q C L st h w h' hf hk kk H locs ls cells slots hR hS hl hc hs
  unfold je_scr at hf
  split at hf
  case h_2 => cases hf
  rename_i h1
  obtain ⟨y, hy, hf⟩ := jz_bind hf
  split at hf
  case isFalse => cases hf
  rename_i hin
  cases hf
  obtain ⟨hX, hbl, hb0⟩ := C.2.2.2.2.2.2.2.2 Ln xs hsc
  refine lv_aload_n (x := b) C.1 C.2.1 hd0 rfl (jz_lvat hl h1 jz_c1) ?_
  refine hi p l e s m args below meth c S0 b D cA Q C L (.null :: st) h y.1 y.2 hy (by simp only [List.map_cons, List.sum_cons]; exact (by have : (Value.null).category = 1 := rfl; omega)) ?_ H locs ls cells slots hR hS hl hc hs
  intro H locs ls cells slots hR hS hl hc hs
  exact va_sld C.1 C.2.1 hX hbl (Nat.not_le.mpr hb0) hS (jz_in_vp hin) hd (kk H locs ls cells slots hR hS hl hc hs)
