/-! methods: what they mean, and that they do it -/
abbrev jz_M (α : Type) : Type := List Value → jz_H → Option (α × jz_H)
/-- the receiver is an object of class ci, and n arguments stand beside it -/
def jz_isO (ci n : Nat) (as : List Value) (h : jz_H) : Bool := match as with
  | .ref d :: r => (r.length == n) && (match h.1[d]? with
    | some (0, c, _) => c == ci
    | _ => false)
  | _ => false
def jz_isS (n : Nat) (as : List Value) (_ : jz_H) : Bool := as.length == n
/-- so many cells, so many slots have come -/
def jz_ok (mc ms : Nat) (h h' : jz_H) : Bool := decide (h'.1.length = h.1.length + mc) && decide (jz_sz h'.1 = jz_sz h.1 + ms)
def je_call {α : Type} (chk : List Value → jz_H → Bool) (M : jz_M α) (g : jz_X (List Value)) : jz_X α := fun L h => (g L h).bind fun x => if chk x.1 x.2 = true then (M x.1 x.2).bind fun q => if jz_ok 0 0 x.2 q.2 = true then some q else none else none
def jz_Pc (S0 b : Nat) (D : va_G) (cA : Nat → ClassId) (as : List Value) (h : jz_H) : Array Value → State → Prop := va_Pc (as.map (jz_rho S0 b)) (fun U => jz_R S0 D cA h U.heap ∧ jz_K D cA U ∧ U.heap.size = S0 + h.1.length)
def jz_Qi (S0 : Nat) (D : va_G) (cA : Nat → ClassId) (r : Int32) (h' : jz_H) : Array Value → State → Outcome → State → Prop := va_Qi (fun r' (u : jz_H) => r' = r ∧ u = h') (fun u t => jz_R S0 D cA u t.heap) (fun q => S0 ≤ q)
def jz_Qv (S0 : Nat) (D : va_G) (cA : Nat → ClassId) (h' : jz_H) : Array Value → State → Outcome → State → Prop := va_Qv (fun (u : jz_H) => u = h') (fun u t => jz_R S0 D cA u t.heap) (fun q => S0 ≤ q)
def jz_MI (y : MethodName) (cc : ByteArray) (nL : Nat) (ret : Option FieldType) (rm : Room) (M : jz_M Int32) : Prop :=
  ∀ (l : Launch) (S0 b : Nat) (D : va_G) (cA : Nat → ClassId) (as : List Value) (h : jz_H) (r : Int32) (h' : jz_H), M as h = some (r, h') → jz_ok rm.cells rm.slots h h' = true → Met l y (Cond.code y cc nL ret :: jz_tb) rm (jz_Pc S0 b D cA as h) (jz_Qi S0 D cA r h') rm.cells rm.slots (fun q => S0 ≤ q)
def jz_MV (y : MethodName) (cc : ByteArray) (nL : Nat) (rm : Room) (M : jz_M Unit) : Prop :=
  ∀ (l : Launch) (S0 b : Nat) (D : va_G) (cA : Nat → ClassId) (as : List Value) (h : jz_H) (h' : jz_H), M as h = some ((), h') → jz_ok rm.cells rm.slots h h' = true → Met l y (Cond.code y cc nL none :: jz_tb) rm (jz_Pc S0 b D cA as h) (jz_Qv S0 D cA h') rm.cells rm.slots (fun q => S0 ≤ q)
theorem jz_blind (S0 b : Nat) (D : va_G) (cA : Nat → ClassId) (as : List Value) (h : jz_H) : FrameBlind (jz_Pc S0 b D cA as h) := fun a U g mk q => ⟨q.1, q.2.1, jz_K.same (s := U) (U := U.calling g mk a) rfl q.2.2.1, q.2.2.2⟩
theorem jz_goodc {y : MethodName} {cc : ByteArray} {nL : Nat} {ret : Option FieldType} (hw : Cond.code y cc nL ret ∈ jz_tb) : GoodIn jz_tb (Cond.code y cc nL ret :: jz_tb) := by
  intro w h
  rcases List.mem_cons.mp h with rfl | h
  · exact ⟨hw, jz_good hw⟩
  · exact ⟨h, jz_good h⟩
theorem jz_okz {h h' : jz_H} (hk : jz_ok 0 0 h h' = true) : h'.1.length = h.1.length ∧ jz_sz h'.1 = jz_sz h.1 := by
  unfold jz_ok at hk
  simpa using hk
/-- what a name must be -/
def jz_nm (y : MethodName) (n : Nat) : Prop := y.cls ≠ "java/lang/invoke/MethodHandle" ∧ y.cls ≠ "java/lang/invoke/VarHandle" ∧ (parseMethodDescriptor y.desc).map (fun d => d.parameters.length) = some n
theorem jz_callB {p : Program} {s : State} {m : MethodId} {args : Array Value} {meth : Method} {c : Code} {A : jz_A} {S0 b : Nat} {D : va_G} {cA : Nat → ClassId} (C : jz_C p s m args meth c A S0 b D cA) {idx nL n : Nat} {y : MethodName} {cc : ByteArray} {ret : Option FieldType} {rm : Room} (hn : jz_nm y n) (w1 : Cond.methodLink A.2.2.1 idx y ∈ jz_tb) (w4 : Cond.initialized y.cls ∈ jz_tb) (w5 : Cond.code y cc nL ret ∈ jz_tb) (hR : rm.frames + 1 ≤ A.2.2.2.1.frames ∧ 8 + (nL + 11) + rm.locals ≤ A.2.2.2.1.locals) :
    CallB A.2.2.2.1 s args A.2.2.1 idx y cc nL ret (Cond.code y cc nL ret :: jz_tb) rm rm.cells rm.slots n :=
  callB_of n C.2.2.2.2.1 (jz_goodc w5) rfl rfl rfl (C.2.2.2.2.1 _ w4) (C.2.2.2.2.1 _ w1) hn hR
theorem jz_fix {p : Program} {s : State} {m : MethodId} {args : Array Value} {meth : Method} {c : Code} {A : jz_A} {S0 b : Nat} {D : va_G} {cA : Nat → ClassId} (C : jz_C p s m args meth c A S0 b D cA) : CallFix p m c A.1 A.2.1 s args jz_tb A.2.2.1 := ⟨C.1, C.2.1, C.2.2.1, C.2.2.2.1, C.2.2.2.2.1⟩
theorem jz_isO_some {ci n : Nat} {as : List Value} {h : jz_H} (hc : jz_isO ci n as h = true) : ∃ d r fs, as = .ref d :: r ∧ r.length = n ∧ h.1[d]? = some (0, ci, fs) := by
  unfold jz_isO at hc
  split at hc
  · next d r =>
    simp only [Bool.and_eq_true, beq_iff_eq] at hc
    obtain ⟨h1, h2⟩ := hc
    split at h2
    · next c fs hs =>
      have h3 : c = ci := by simpa using h2
      subst h3
      exact ⟨d, r, fs, rfl, h1, hs⟩
    · cases h2
  · cases hc
/-- behind a call: the world goes on -/
theorem jz_backi {p : Program} {l : Launch} {e : Env} {s : State} {m : MethodId} {args : Array Value} {below : List Frame} {meth : Method} {c : Code} {A : jz_A} {S0 b : Nat} {D : va_G} {cA : Nat → ClassId} {Q : State → Prop} {pc : Nat} {L : jz_L} {st st0 : List Value} {h' : jz_H} {r : Int32} {H : Heap} {locs : List Loc} {ls : Array Slot} {cells slots mc ms : Nat} {a : Array Value}
    (hr : va_Run p l e A.2.2.2.1 s m args below meth c H locs cells slots mc ms (F0 m pc ls st0) (st.map (jz_rho S0 b)) (jz_Qi S0 D cA r h' a) (fun q => S0 ≤ q)) (hS : va_S (fun q => S0 ≤ q) s.heap H locs) (hl : lv_has ls A.2.1 (jz_lv S0 b L)) (hc : (cells + mc) + A.2.2.2.2.1 = h'.1.length) (hs : (slots + ms) + A.2.2.2.2.2.1 = jz_sz h'.1 ∧ (cells + mc) ≤ A.2.2.2.1.cells ∧ (slots + ms) ≤ A.2.2.2.1.slots)
    (kk : jz_W p l e s m args below meth c A S0 b D cA Q (pc + 3) L (.int r :: st) h') : W p l e A.2.2.2.1 s m args below meth c H locs cells slots Q (F0 m pc ls st0) := by
  refine va_calli hr hS (fun _ _ h => h) (fun _ h => h) (fun r' u t H1 locs1 ht hvm hp hB hz1 hk1 hS1 => ?_)
  obtain ⟨rfl, rfl⟩ := hp
  rw [ht] at hB
  exact kk H1 locs1 ls (cells + mc) (slots + ms) hB hS1 hl hc hs
theorem jz_backv {p : Program} {l : Launch} {e : Env} {s : State} {m : MethodId} {args : Array Value} {below : List Frame} {meth : Method} {c : Code} {A : jz_A} {S0 b : Nat} {D : va_G} {cA : Nat → ClassId} {Q : State → Prop} {pc : Nat} {L : jz_L} {st st0 : List Value} {h' : jz_H} {H : Heap} {locs : List Loc} {ls : Array Slot} {cells slots mc ms : Nat} {a : Array Value}
    (hr : va_Run p l e A.2.2.2.1 s m args below meth c H locs cells slots mc ms (F0 m pc ls st0) (st.map (jz_rho S0 b)) (jz_Qv S0 D cA h' a) (fun q => S0 ≤ q)) (hS : va_S (fun q => S0 ≤ q) s.heap H locs) (hl : lv_has ls A.2.1 (jz_lv S0 b L)) (hc : (cells + mc) + A.2.2.2.2.1 = h'.1.length) (hs : (slots + ms) + A.2.2.2.2.2.1 = jz_sz h'.1 ∧ (cells + mc) ≤ A.2.2.2.1.cells ∧ (slots + ms) ≤ A.2.2.2.1.slots)
    (kk : jz_W p l e s m args below meth c A S0 b D cA Q (pc + 3) L st h') : W p l e A.2.2.2.1 s m args below meth c H locs cells slots Q (F0 m pc ls st0) := by
  refine va_callv hr hS (fun _ _ h => h) (fun _ h => h) (fun u t H1 locs1 ht hvm hp hB hz1 hk1 hS1 => ?_)
  obtain rfl := hp
  rw [ht] at hB
  exact kk H1 locs1 ls (cells + mc) (slots + ms) hB hS1 hl hc hs
theorem jr_callV {A : jz_A} {k pc p1 idx ci n nL N : Nat} {C : String} {T : u_T} {y : MethodName} {cc : ByteArray} {ret : Option FieldType} {rm : Room} {M : jz_M Int32} {g : jz_X (List Value)} (hM : jz_MI y cc nL ret rm M) (hz : rm.cells = 0 ∧ rm.slots = 0) (hcl : vwCl[ci]? = some (C, T, N)) (hg : jz_G A k pc p1 g) (hd : decode A.1 p1 = .ok (.invokevirtual idx, 3)) (hk8 : k ≤ 8) (hn : jz_nm y n)
    (w1 : Cond.methodLink A.2.2.1 idx y ∈ jz_tb) (w2 : Cond.instanceMethod y ∈ jz_tb) (w3 : Cond.selects C y y ∈ jz_tb) (w4 : Cond.initialized y.cls ∈ jz_tb) (w5 : Cond.code y cc nL ret ∈ jz_tb) (hR : rm.frames + 1 ≤ A.2.2.2.1.frames ∧ 8 + (nL + 11) + rm.locals ≤ A.2.2.2.1.locals) : jz_I A k pc (p1 + 3) (je_call (jz_isO ci n) M g) := by
  intro p l e s m args below meth c S0 bb D cA Q Cx L st h w h' hf hk kk
  obtain ⟨x, hx, hf⟩ := jz_bind hf
  split at hf
  case isFalse => cases hf
  rename_i hchk
  obtain ⟨q, hq, hf⟩ := jz_bind hf
  split at hf
  case isFalse => cases hf
  rename_i hok
  cases hf
  obtain ⟨d, r, fs, hxe, hrl, hsd⟩ := jz_isO_some hchk
  refine hg p l e s m args below meth c S0 bb D cA Q Cx L st h x.1 x.2 hx hk ?_
  intro H locs ls cells slots hR1 hS hl hc hs
  refine jz_szw Cx hR1 hc (fun hsz => ?_)
  have hm := hM l S0 bb D cA x.1 x.2 w h' hq (by rw [hz.1, hz.2]; exact hok)
  obtain ⟨ho1, ho2⟩ := jz_okz hok
  have hst : (x.1.reverse ++ st).map (jz_rho S0 bb) = (r.map (jz_rho S0 bb)).reverse ++ .ref (S0 + d) :: st.map (jz_rho S0 bb) := by rw [hxe]; simp [jz_rho]
  rw [hst]
  have hrun := va_runV (b := S0 + d) (As := r.map (jz_rho S0 bb)) (rest := st.map (jz_rho S0 bb)) (g := F0 m p1 ls ((r.map (jz_rho S0 bb)).reverse ++ .ref (S0 + d) :: st.map (jz_rho S0 bb))) (locs := locs) (cells := cells) (slots := slots) (H := H) (e := e) (below := below) (meth := meth) (jz_fix Cx) hm ⟨jz_callB Cx hn w1 w4 w5 hR, Cx.2.2.2.2.1 _ w2, Cx.2.2.2.2.1 _ w3⟩
    ⟨jz_blind S0 bb D cA x.1 x.2, va_recv Cx.2.2.2.2.2.1.1 hR1 hcl (jz_ws_get hsd), fun U hU hW => ⟨by rw [hxe]; rfl, by rw [hU]; exact hR1, Cx.2.2.2.2.2.1.warm hW, by rw [hU]; exact hsz⟩⟩ rfl (by rw [List.length_map]; exact hrl) hl.1 rfl (lv_room (by rw [jz_catm]; omega)) hd (by rw [hz.1, hz.2]; exact ⟨hs.2.1, hs.2.2⟩)
  refine jz_backi hrun hS hl ?_ ?_ kk
  · rw [hz.1, ho1]; exact hc
  · rw [hz.1, hz.2, ho2]; exact hs
theorem jr_callS {A : jz_A} {k pc p1 idx n nL : Nat} {y : MethodName} {cc : ByteArray} {ret : Option FieldType} {rm : Room} {M : jz_M Int32} {g : jz_X (List Value)} (hM : jz_MI y cc nL ret rm M) (hz : rm.cells = 0 ∧ rm.slots = 0) (hg : jz_G A k pc p1 g) (hd : decode A.1 p1 = .ok (.invokestatic idx, 3)) (hk8 : k ≤ 8) (hn : jz_nm y n)
    (w1 : Cond.methodLink A.2.2.1 idx y ∈ jz_tb) (w2 : Cond.static y ∈ jz_tb) (w4 : Cond.initialized y.cls ∈ jz_tb) (w5 : Cond.code y cc nL ret ∈ jz_tb) (hR : rm.frames + 1 ≤ A.2.2.2.1.frames ∧ 8 + (nL + 11) + rm.locals ≤ A.2.2.2.1.locals) : jz_I A k pc (p1 + 3) (je_call (jz_isS n) M g) := by
  intro p l e s m args below meth c S0 bb D cA Q Cx L st h w h' hf hk kk
  obtain ⟨x, hx, hf⟩ := jz_bind hf
  split at hf
  case isFalse => cases hf
  rename_i hchk
  obtain ⟨q, hq, hf⟩ := jz_bind hf
  split at hf
  case isFalse => cases hf
  rename_i hok
  cases hf
  refine hg p l e s m args below meth c S0 bb D cA Q Cx L st h x.1 x.2 hx hk ?_
  intro H locs ls cells slots hR1 hS hl hc hs
  refine jz_szw Cx hR1 hc (fun hsz => ?_)
  have hm := hM l S0 bb D cA x.1 x.2 w h' hq (by rw [hz.1, hz.2]; exact hok)
  obtain ⟨ho1, ho2⟩ := jz_okz hok
  have hst : (x.1.reverse ++ st).map (jz_rho S0 bb) = (x.1.map (jz_rho S0 bb)).reverse ++ st.map (jz_rho S0 bb) := by simp
  rw [hst]
  have hrun := va_runS (As := x.1.map (jz_rho S0 bb)) (rest := st.map (jz_rho S0 bb)) (g := F0 m p1 ls ((x.1.map (jz_rho S0 bb)).reverse ++ st.map (jz_rho S0 bb))) (locs := locs) (cells := cells) (slots := slots) (H := H) (e := e) (below := below) (meth := meth) (jz_fix Cx) hm ⟨jz_callB Cx hn w1 w4 w5 hR, Cx.2.2.2.2.1 _ w2⟩
    ⟨jz_blind S0 bb D cA x.1 x.2, fun U hU hW => ⟨rfl, by rw [hU]; exact hR1, Cx.2.2.2.2.2.1.warm hW, by rw [hU]; exact hsz⟩⟩ rfl (by rw [List.length_map]; simpa [jz_isS] using hchk) hl.1 rfl (lv_room (by rw [jz_catm]; omega)) hd (by rw [hz.1, hz.2]; exact ⟨hs.2.1, hs.2.2⟩)
  refine jz_backi hrun hS hl ?_ ?_ kk
  · rw [hz.1, ho1]; exact hc
  · rw [hz.1, hz.2, ho2]; exact hs
/-- a private method of a nest mate -/
theorem jr_callSN {A : jz_A} {k pc p1 idx n nL : Nat} {y : MethodName} {host : String} {cc : ByteArray} {ret : Option FieldType} {rm : Room} {M : jz_M Int32} {g : jz_X (List Value)} (hM : jz_MI y cc nL ret rm M) (hz : rm.cells = 0 ∧ rm.slots = 0) (hg : jz_G A k pc p1 g) (hd : decode A.1 p1 = .ok (.invokestatic idx, 3)) (hk8 : k ≤ 8) (hn : jz_nm y n)
    (w1 : Cond.methodLinkNest A.2.2.1 idx y host ∈ jz_nest) (w2 : Cond.static y ∈ jz_tb) (w4 : Cond.initialized y.cls ∈ jz_tb) (w5 : Cond.code y cc nL ret ∈ jz_tb) (hR : rm.frames + 1 ≤ A.2.2.2.1.frames ∧ 8 + (nL + 11) + rm.locals ≤ A.2.2.2.1.locals) : jz_I A k pc (p1 + 3) (je_call (jz_isS n) M g) := by
  intro p l e s m args below meth c S0 bb D cA Q Cx L st h w h' hf hk kk
  obtain ⟨x, hx, hf⟩ := jz_bind hf
  split at hf
  case isFalse => cases hf
  rename_i hchk
  obtain ⟨q, hq, hf⟩ := jz_bind hf
  split at hf
  case isFalse => cases hf
  rename_i hok
  cases hf
  refine hg p l e s m args below meth c S0 bb D cA Q Cx L st h x.1 x.2 hx hk ?_
  intro H locs ls cells slots hR1 hS hl hc hs
  refine jz_szw Cx hR1 hc (fun hsz => ?_)
  have hm := hM l S0 bb D cA x.1 x.2 w h' hq (by rw [hz.1, hz.2]; exact hok)
  obtain ⟨ho1, ho2⟩ := jz_okz hok
  have hst : (x.1.reverse ++ st).map (jz_rho S0 bb) = (x.1.map (jz_rho S0 bb)).reverse ++ st.map (jz_rho S0 bb) := by simp
  rw [hst]
  have hrun := va_runSN (host := host) (As := x.1.map (jz_rho S0 bb)) (rest := st.map (jz_rho S0 bb)) (g := F0 m p1 ls ((x.1.map (jz_rho S0 bb)).reverse ++ st.map (jz_rho S0 bb))) (locs := locs) (cells := cells) (slots := slots) (H := H) (e := e) (below := below) (meth := meth) (jz_fix Cx) hm ⟨va_cnB n Cx.2.2.2.2.1 (jz_goodc w5) rfl rfl rfl (Cx.2.2.2.2.2.1.2.1 _ w1) (Cx.2.2.2.2.1 _ w4) hn hR, Cx.2.2.2.2.1 _ w2, trivial⟩
    ⟨jz_blind S0 bb D cA x.1 x.2, fun U hU hW => ⟨rfl, by rw [hU]; exact hR1, Cx.2.2.2.2.2.1.warm hW, by rw [hU]; exact hsz⟩⟩ rfl (by rw [List.length_map]; simpa [jz_isS] using hchk) hl.1 rfl (lv_room (by rw [jz_catm]; omega)) hd (by rw [hz.1, hz.2]; exact ⟨hs.2.1, hs.2.2⟩)
  refine jz_backi hrun hS hl ?_ ?_ kk
  · rw [hz.1, ho1]; exact hc
  · rw [hz.1, hz.2, ho2]; exact hs
/-- the larger, the smaller of two -/
theorem jr_max {A : jz_A} {k pc p1 p2 idx : Nat} {a b : jz_X Int32} (ha : jz_I A k pc p1 a) (hb : jz_I A (k + 1) p1 p2 b) (hd : decode A.1 p2 = .ok (.invokestatic idx, 3)) (w1 : Cond.methodLink A.2.2.1 idx Lib.Math.max.name ∈ jz_tb) (w2 : Cond.static Lib.Math.max.name ∈ jz_tb) (w4 : Cond.initialized "java/lang/Math" ∈ jz_tb) (w5 : Cond.code Lib.Math.max.name Lib.Math.max.code 2 (some .int) ∈ jz_tb) (hR : 1 ≤ A.2.2.2.1.frames ∧ k + 13 ≤ A.2.2.2.1.locals) : jz_I A k pc (p2 + 3) (je_bin (fun x y => if x < y then y else x) a b) := by
  intro p l e s m args below meth c S0 bb D cA Q C L st h w h' hf hk kk
  obtain ⟨x, hx, hf⟩ := jz_bind hf
  obtain ⟨y, hy, hf⟩ := jz_bind hf
  cases hf
  refine ha p l e s m args below meth c S0 bb D cA Q C L st h x.1 x.2 hx hk ?_
  refine hb p l e s m args below meth c S0 bb D cA Q C L _ x.2 y.1 y.2 hy (by simp only [List.map_cons, List.sum_cons]; exact (by have : (Value.int x.1).category = 1 := rfl; omega)) ?_
  intro H locs ls cells slots hR1 hS hl hc hs
  exact va_mmax C.1 C.2.1 (C.2.2.1.trans hl.1.symm) C.2.2.2.1 (C.2.2.2.2.1 _ w1) (C.2.2.2.2.1 _ w2) (C.2.2.2.2.1 _ w4) (C.2.2.2.2.1 _ w5) hR.1 (by rw [jz_catm]; omega) hs.2.1 hs.2.2 hd (kk H locs ls cells slots hR1 hS hl hc hs)
theorem jr_min {A : jz_A} {k pc p1 p2 idx : Nat} {a b : jz_X Int32} (ha : jz_I A k pc p1 a) (hb : jz_I A (k + 1) p1 p2 b) (hd : decode A.1 p2 = .ok (.invokestatic idx, 3)) (w1 : Cond.methodLink A.2.2.1 idx Lib.Math.min.name ∈ jz_tb) (w2 : Cond.static Lib.Math.min.name ∈ jz_tb) (w4 : Cond.initialized "java/lang/Math" ∈ jz_tb) (w5 : Cond.code Lib.Math.min.name Lib.Math.min.code 2 (some .int) ∈ jz_tb) (hR : 1 ≤ A.2.2.2.1.frames ∧ k + 13 ≤ A.2.2.2.1.locals) : jz_I A k pc (p2 + 3) (je_bin (fun x y => if y < x then y else x) a b) := by
  intro p l e s m args below meth c S0 bb D cA Q C L st h w h' hf hk kk
  obtain ⟨x, hx, hf⟩ := jz_bind hf
  obtain ⟨y, hy, hf⟩ := jz_bind hf
  cases hf
  refine ha p l e s m args below meth c S0 bb D cA Q C L st h x.1 x.2 hx hk ?_
  refine hb p l e s m args below meth c S0 bb D cA Q C L _ x.2 y.1 y.2 hy (by simp only [List.map_cons, List.sum_cons]; exact (by have : (Value.int x.1).category = 1 := rfl; omega)) ?_
  intro H locs ls cells slots hR1 hS hl hc hs
  exact va_mmin C.1 C.2.1 (C.2.2.1.trans hl.1.symm) C.2.2.2.1 (C.2.2.2.2.1 _ w1) (C.2.2.2.2.1 _ w2) (C.2.2.2.2.1 _ w4) (C.2.2.2.2.1 _ w5) hR.1 (by rw [jz_catm]; omega) hs.2.1 hs.2.2 hd (kk H locs ls cells slots hR1 hS hl hc hs)
