/-! THE PURE WORLD: a heap of cells by small numbers; the machine's heap holds it from S0 on -/
/-- a cell's shape: (0, class, fields: none an int, some r a reference) | (1, length) ints | (2, length) booleans | (3.., length, references) -/
abbrev jz_Sh : Type := Nat × Nat × List (Option (Option Nat))
/-- shapes, and the ints in them -/
abbrev jz_H : Type := List jz_Sh × (Nat → Nat → Int32)
abbrev jz_L : Type := List (Option Value)
def jz_rho (S0 b : Nat) (v : Value) : Value := match v with
  | .ref k => .ref (S0 + k)
  | .null => .ref b
  | w => w
def jz_fv (S0 : Nat) (f : Nat → Int32) (j : Nat) (o : Option (Option Nat)) : Value := match o with
  | none => .int (f j)
  | some r => va_rf (r.map (fun k => S0 + k))
def jz_ra (S0 : Nat) (fs : List (Option (Option Nat))) (j : Nat) : Option Nat := match fs[j]? with
  | some (some (some r)) => some (S0 + r)
  | _ => none
def jz_E (S0 : Nat) (cA : Nat → ClassId) (sh : jz_Sh) (f : Nat → Int32) : va_E := match sh with
  | (0, ci, fs) => .inr (ci, fs.mapIdx (jz_fv S0 f))
  | (1, n, _) => .inl (cA 0, n, .inl f)
  | (2, n, _) => .inl (cA 1, n, .inl f)
  | (t + 3, n, fs) => .inl (cA (t + 2), n, .inr (.inr (.inr (.inr (jz_ra S0 fs)))))
def jz_ws (S0 : Nat) (cA : Nat → ClassId) (h : jz_H) : va_W := h.1.mapIdx (fun k sh => (S0 + k, jz_E S0 cA sh (h.2 k)))
def jz_R (S0 : Nat) (D : va_G) (cA : Nat → ClassId) (h : jz_H) (H : Heap) : Prop := va_P D vwCl (jz_ws S0 cA h) H
def jz_tys (cA : Nat → ClassId) : List (ClassId × FieldType) := [(cA 0, .int), (cA 1, .boolean), (cA 2, .object RX0), (cA 3, .object RX1)]
/-- the slots of a shape -/
def jz_n (sh : jz_Sh) : Nat := if sh.1 = 0 then sh.2.2.length else sh.2.1
def jz_sz (l : List jz_Sh) : Nat := (l.map jz_n).sum
def jz_lv (S0 b : Nat) (L : jz_L) : List (Nat × Value) := (L.mapIdx (fun i o => o.bind (fun v => if v.category = 2 then none else some (i, jz_rho S0 b v)))).filterMap id
def jz_up (f : Nat → Nat → Int32) (a k : Nat) (v : Int32) : Nat → Nat → Int32 := fun x => if x = a then upd (f a) k v else f x
/-- a method's fixed things: code, locals, class, room, the shapes at its entry (how many, their slots), its name, the script that it reads (the law alone) -/
abbrev jz_A : Type := ByteArray × Nat × String × Room × Nat × Nat × String × Option (Nat × (Nat → Int32))
theorem jz_cat (S0 b : Nat) (v : Value) : (jz_rho S0 b v).category = v.category := by cases v <;> rfl
theorem jz_catm (S0 b : Nat) (st : List Value) : ((st.map (jz_rho S0 b)).map fun v => v.category).sum = (st.map fun v => v.category).sum := by
  induction st with
  | nil => rfl
  | cons v st ih => simp only [List.map_cons, List.sum_cons, jz_cat, ih]
theorem jz_lv_mem {S0 b : Nat} {L : jz_L} {i : Nat} {v : Value} : (i, v) ∈ jz_lv S0 b L ↔ ∃ w, L[i]? = some (some w) ∧ w.category ≠ 2 ∧ v = jz_rho S0 b w := by
  unfold jz_lv
  rw [List.mem_filterMap]
  constructor
  · rintro ⟨o, ho, he⟩
    obtain ⟨j, hj, hj2⟩ := List.mem_mapIdx.mp ho
    simp only [id] at he
    subst he
    cases hL : L[j] with
    | none => rw [hL] at hj2; cases hj2
    | some w =>
      rw [hL] at hj2
      by_cases hc : w.category = 2
      · simp [hc] at hj2
      · simp only [Option.bind_some, if_neg hc, Option.some.injEq, Prod.mk.injEq] at hj2
        obtain ⟨rfl, rfl⟩ := hj2
        exact ⟨w, by rw [List.getElem?_eq_getElem hj, hL], hc, rfl⟩
  · rintro ⟨w, hw, hc, rfl⟩
    obtain ⟨hj, he⟩ := List.getElem?_eq_some_iff.mp hw
    exact ⟨some (i, jz_rho S0 b w), List.mem_mapIdx.mpr ⟨i, hj, by rw [he, Option.bind_some, if_neg hc]⟩, rfl⟩
theorem jz_lvat {S0 b : Nat} {L : jz_L} {ls : Array Slot} {nL : Nat} (hl : lv_has ls nL (jz_lv S0 b L)) {i : Nat} {v : Value} (h : L[i]? = some (some v)) (hc : v.category ≠ 2) : ls[i]? = some (.val (jz_rho S0 b v)) :=
  hl.2.2 (i, jz_rho S0 b v) (jz_lv_mem.mpr ⟨v, h, hc, rfl⟩)
/-- a local is written -/
theorem jz_lvset {S0 b : Nat} {L : jz_L} {ls : Array Slot} {nL i : Nat} {v : Value} (hl : lv_has ls nL ((i, jz_rho S0 b v) :: (jz_lv S0 b L).filter (fun q => !(q.1 == i) && !(q.1 + 1 == i && q.2.category == 2)))) :
    lv_has ls nL (jz_lv S0 b (L.set i (some v))) := by
  refine ⟨hl.1, hl.2.1, fun q hq => ?_⟩
  obtain ⟨j, w⟩ := q
  obtain ⟨w', h1, hc, rfl⟩ := jz_lv_mem.mp hq
  by_cases hij : i = j
  · subst hij
    have hlt : i < L.length := by
      have := (List.getElem?_eq_some_iff.mp h1).1
      rwa [List.length_set] at this
    rw [List.getElem?_set_self hlt] at h1
    cases h1
    exact hl.2.2 _ List.mem_cons_self
  · rw [List.getElem?_set_ne hij] at h1
    refine hl.2.2 _ (List.mem_cons_of_mem _ (List.mem_filter.mpr ⟨jz_lv_mem.mpr ⟨w', h1, hc, rfl⟩, ?_⟩))
    have hji : j ≠ i := fun h => hij h.symm
    have h3' : (w'.category == 2) = false := by simpa using hc
    simp [hji, jz_cat, h3']
theorem jz_ws_get {S0 : Nat} {cA : Nat → ClassId} {h : jz_H} {a : Nat} {sh : jz_Sh} (hs : h.1[a]? = some sh) : (jz_ws S0 cA h)[a]? = some (S0 + a, jz_E S0 cA sh (h.2 a)) := by
  unfold jz_ws
  rw [List.getElem?_mapIdx, hs]
  rfl
theorem jz_ws_len {S0 : Nat} {cA : Nat → ClassId} {h : jz_H} : (jz_ws S0 cA h).length = h.1.length := by unfold jz_ws; simp
theorem jz_D (S0 : Nat) (cA : Nat → ClassId) (h : jz_H) : va_D (fun q => S0 ≤ q) (jz_ws S0 cA h) := by
  have key : ∀ (k : Nat) (q : Nat × va_E), (jz_ws S0 cA h)[k]? = some q → q.1 = S0 + k := by
    intro k q hq
    unfold jz_ws at hq
    rw [List.getElem?_mapIdx] at hq
    cases hs : h.1[k]? with
    | none => rw [hs] at hq; cases hq
    | some sh => rw [hs] at hq; cases hq; rfl
  refine ⟨fun i j p q hp hq he => ?_, fun k q hq => ?_⟩
  · rw [key i p hp, key j q hq] at he; omega
  · show S0 ≤ q.1
    rw [key k q hq]; omega
/-- an int of a cell is written -/
theorem jz_ws_put {S0 : Nat} {cA : Nat → ClassId} {h : jz_H} {a : Nat} {sh : jz_Sh} (hs : h.1[a]? = some sh) (k : Nat) (v : Int32) :
    (jz_ws S0 cA h).set a (S0 + a, jz_E S0 cA sh (upd (h.2 a) k v)) = jz_ws S0 cA (h.1, jz_up h.2 a k v) := by
  apply List.ext_getElem?
  intro i
  by_cases hi : i = a
  · subst hi
    rw [List.getElem?_set_self (by rw [jz_ws_len]; exact (List.getElem?_eq_some_iff.mp hs).1)]
    rw [jz_ws_get (h := (h.1, jz_up h.2 i k v)) hs]
    simp [jz_up]
  · rw [List.getElem?_set_ne (fun z => hi z.symm)]
    unfold jz_ws
    rw [List.getElem?_mapIdx, List.getElem?_mapIdx]
    simp only [jz_up, if_neg hi]
/-- a shape is written -/
theorem jz_ws_sh {S0 : Nat} {cA : Nat → ClassId} {h : jz_H} {a : Nat} {sh sh' : jz_Sh} (hs : h.1[a]? = some sh) :
    (jz_ws S0 cA h).set a (S0 + a, jz_E S0 cA sh' (h.2 a)) = jz_ws S0 cA (h.1.set a sh', h.2) := by
  have hl := (List.getElem?_eq_some_iff.mp hs).1
  apply List.ext_getElem?
  intro i
  by_cases hi : i = a
  · subst hi
    rw [List.getElem?_set_self (by rw [jz_ws_len]; exact hl)]
    rw [jz_ws_get (h := (h.1.set i sh', h.2)) (by rw [List.getElem?_set_self hl])]
  · rw [List.getElem?_set_ne (fun z => hi z.symm)]
    unfold jz_ws
    rw [List.getElem?_mapIdx, List.getElem?_mapIdx, List.getElem?_set_ne (fun z => hi z.symm)]
theorem jz_ws_push {S0 : Nat} {cA : Nat → ClassId} {h : jz_H} {sh : jz_Sh} : jz_ws S0 cA h ++ [(S0 + h.1.length, jz_E S0 cA sh (h.2 h.1.length))] = jz_ws S0 cA (h.1 ++ [sh], h.2) := by
  unfold jz_ws
  rw [List.mapIdx_append]
  simp
/-- what the tables say, by which a method goes -/
def jz_K (D : va_G) (cA : Nat → ClassId) (U : State) : Prop := va_K D vwCl (jz_tys cA) U ∧ (∀ w ∈ jz_nest, va_Nw w U) ∧ va_AO RX0 U ∧ va_AO RX1 U
theorem jz_K.warm {D : va_G} {cA : Nat → ClassId} {s U : State} (hW : s.WarmedH U.vm) (h : jz_K D cA s) : jz_K D cA U := by
  refine ⟨va_K.moved hW.alike h.1, fun w hw => ?_, va_AO.moved hW.alike h.2.2.1, va_AO.moved hW.alike h.2.2.2⟩
  have h1 := h.2.1 w hw
  simp only [jz_nest, List.mem_cons, List.not_mem_nil, or_false] at hw
  rcases hw with rfl | rfl | rfl | rfl | rfl | rfl | rfl | rfl <;> exact va_Nw.warmM hW h1
theorem jz_K.same {D : va_G} {cA : Nat → ClassId} {s U : State} (he : s.vm = U.vm) (h : jz_K D cA s) : jz_K D cA U := by
  refine ⟨va_K.moved (he ▸ Vm.Alike.refl s.vm) h.1, fun w hw => ?_, va_AO.moved (he ▸ Vm.Alike.refl s.vm) h.2.2.1, va_AO.moved (he ▸ Vm.Alike.refl s.vm) h.2.2.2⟩
  have h1 := h.2.1 w hw
  simp only [jz_nest, List.mem_cons, List.not_mem_nil, or_false] at hw
  rcases hw with rfl | rfl | rfl | rfl | rfl | rfl | rfl | rfl <;> exact va_Nw.same rfl he h1
/-! THE JUDGEMENTS -/
def jz_C (p : Program) (s : State) (m : MethodId) (args : Array Value) (meth : Method) (c : Code) (A : jz_A) (S0 b : Nat) (D : va_G) (cA : Nat → ClassId) : Prop :=
  p.tables.exec = Jvm.exec ∧ c.code = A.1 ∧ c.maxLocals = A.2.1 ∧ s.vm.findClass A.2.2.1 = some m.cls ∧ (∀ w ∈ jz_tb, w.before args s = true) ∧ jz_K D cA s ∧ s.heap.size = S0 + A.2.2.2.2.1 ∧ meth.name = A.2.2.2.2.2.2.1 ∧ ∀ Ln xs, A.2.2.2.2.2.2.2 = some (Ln, xs) → va_X b Ln xs s s.heap ∧ b < s.heap.size ∧ b < S0
def jz_W (p : Program) (l : Launch) (e : Env) (s : State) (m : MethodId) (args : Array Value) (below : List Frame) (meth : Method) (c : Code) (A : jz_A) (S0 b : Nat) (D : va_G) (cA : Nat → ClassId) (Q : State → Prop) (pc : Nat) (L : jz_L) (st : List Value) (h : jz_H) : Prop :=
  ∀ (H : Heap) (locs : List Loc) (ls : Array Slot) (cells slots : Nat), jz_R S0 D cA h H → va_S (fun q => S0 ≤ q) s.heap H locs → lv_has ls A.2.1 (jz_lv S0 b L) → cells + A.2.2.2.2.1 = h.1.length → (slots + A.2.2.2.2.2.1 = jz_sz h.1 ∧ cells ≤ A.2.2.2.1.cells ∧ slots ≤ A.2.2.2.1.slots) → W p l e A.2.2.2.1 s m args below meth c H locs cells slots Q (F0 m pc ls (st.map (jz_rho S0 b)))
abbrev jz_X (α : Type) : Type := jz_L → jz_H → Option (α × jz_H)
/-- an expression: from pc to pc', its value on the stack -/
def jz_EJ {α : Type} (inj : α → Value) (A : jz_A) (k pc pc' : Nat) (f : jz_X α) : Prop :=
  ∀ p l e s m args below meth c S0 b D cA Q, jz_C p s m args meth c A S0 b D cA → ∀ (L : jz_L) (st : List Value) (h : jz_H) (v : α) (h' : jz_H), f L h = some (v, h') → (st.map fun v => v.category).sum ≤ k → jz_W p l e s m args below meth c A S0 b D cA Q pc' L (inj v :: st) h' → jz_W p l e s m args below meth c A S0 b D cA Q pc L st h
abbrev jz_I (A : jz_A) (k pc pc' : Nat) (f : jz_X Int32) : Prop := jz_EJ Value.int A k pc pc' f
abbrev jz_F (A : jz_A) (k pc pc' : Nat) (f : jz_X Nat) : Prop := jz_EJ Value.ref A k pc pc' f
abbrev jz_J (A : jz_A) (k pc pc' : Nat) (f : jz_X Int64) : Prop := jz_EJ Value.long A k pc pc' f
/-- a condition: from pc to pcT or pcF -/
def jz_B (A : jz_A) (k pc pcT pcF : Nat) (f : jz_X Bool) : Prop :=
  ∀ p l e s m args below meth c S0 b D cA Q, jz_C p s m args meth c A S0 b D cA → ∀ (L : jz_L) (st : List Value) (h : jz_H) (v : Bool) (h' : jz_H), f L h = some (v, h') → (st.map fun v => v.category).sum ≤ k → jz_W p l e s m args below meth c A S0 b D cA Q (if v = true then pcT else pcF) L st h' → jz_W p l e s m args below meth c A S0 b D cA Q pc L st h
/-- arguments: their values on the stack -/
def jz_G (A : jz_A) (k pc pc' : Nat) (f : jz_X (List Value)) : Prop :=
  ∀ p l e s m args below meth c S0 b D cA Q, jz_C p s m args meth c A S0 b D cA → ∀ (L : jz_L) (st : List Value) (h : jz_H) (v : List Value) (h' : jz_H), f L h = some (v, h') → (st.map fun v => v.category).sum ≤ k → jz_W p l e s m args below meth c A S0 b D cA Q pc' L (v.reverse ++ st) h' → jz_W p l e s m args below meth c A S0 b D cA Q pc L st h
/-- what comes of a statement: it goes on, or the method returns -/
abbrev jz_O : Type := (jz_L × jz_H) ⊕ (Option Value × jz_H)
abbrev jz_S : Type := jz_L → jz_H → Option jz_O
/-- the end of the method, with that answer -/
def jz_end (p : Program) (l : Launch) (e : Env) (s : State) (m : MethodId) (args : Array Value) (below : List Frame) (meth : Method) (c : Code) (A : jz_A) (S0 b : Nat) (D : va_G) (cA : Nat → ClassId) (Q : State → Prop) (v : Option Value) (h : jz_H) : Prop :=
  ∀ (pc : Nat) (H : Heap) (locs : List Loc) (ls : Array Slot) (cells slots : Nat), decode A.1 pc = .ok ((match v with | none => Instr.return_ | some _ => Instr.ireturn), 1) → jz_R S0 D cA h H → va_S (fun q => S0 ≤ q) s.heap H locs → cells + A.2.2.2.2.1 = h.1.length → (slots + A.2.2.2.2.2.1 = jz_sz h.1 ∧ cells ≤ A.2.2.2.1.cells ∧ slots ≤ A.2.2.2.1.slots) → W p l e A.2.2.2.1 s m args below meth c H locs cells slots Q (F0 m pc ls v.toList)
def jz_T (A : jz_A) (pc pc' : Nat) (f : jz_S) : Prop :=
  ∀ p l e s m args below meth c S0 b D cA Q, jz_C p s m args meth c A S0 b D cA → ∀ (L : jz_L) (h : jz_H) (o : jz_O), f L h = some o → (match o with
    | .inl (L', h') => jz_W p l e s m args below meth c A S0 b D cA Q pc' L' [] h'
    | .inr (v, h') => jz_end p l e s m args below meth c A S0 b D cA Q v h') → jz_W p l e s m args below meth c A S0 b D cA Q pc L [] h
/-- how large the machine's heap is -/
theorem jz_szw {p : Program} {l : Launch} {e : Env} {s : State} {m : MethodId} {args : Array Value} {below : List Frame} {meth : Method} {c : Code} {A : jz_A} {S0 b : Nat} {D : va_G} {cA : Nat → ClassId} {Q : State → Prop} {h : jz_H} {H : Heap} {locs : List Loc} {cells slots : Nat} {g : JFrame} (C : jz_C p s m args meth c A S0 b D cA) (hR : jz_R S0 D cA h H) (hc : cells + A.2.2.2.2.1 = h.1.length)
    (k : H.size = S0 + h.1.length → W p l e A.2.2.2.1 s m args below meth c H locs cells slots Q g) : W p l e A.2.2.2.1 s m args below meth c H locs cells slots Q g := by
  intro T hT X
  refine k ?_ T hT X
  have h1 : T.heap.size ≤ s.heap.size + cells := X.same.2.2.1
  have h2 : s.heap.size ≤ T.heap.size := X.same.2.1
  rw [hT] at h1 h2
  have h3 := C.2.2.2.2.2.2.1
  by_cases hz : h.1.length = 0
  · omega
  · obtain ⟨sh, hsh⟩ : ∃ sh, h.1[h.1.length - 1]? = some sh := ⟨_, List.getElem?_eq_getElem (by omega)⟩
    have h4 := (hR _ _ (jz_ws_get hsh)).lt
    simp only at h4
    omega
