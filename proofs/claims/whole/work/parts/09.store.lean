/-! statements that write the heap -/
theorem jt_puti {A : jz_A} {pc p1 p2 ci i N : Nat} {Cn : String} {T : u_T} {a : jz_X Nat} {e : jz_X Int32} (j : Nat) (ty0 : Nat → FieldType) (hty : ∀ k, k < N → parseFieldDescriptor (T k).2.2.1 = some (ty0 k)) (hnm : ∀ a, a < N → ∀ b, b < N → a ≠ b → (T a).2.1 ≠ (T b).2.1) (hcl : vwCl[ci]? = some (Cn, T, N)) (hin : ∀ w ∈ u_ws Cn T N, w ∈ jz_tb) (hj : j < N) (hw : Cond.fieldLink A.2.2.1 i (T j).1 (T j).2.1 (T j).2.2.1 ∈ jz_tb) (hfin : (T j).2.2.2 = false) (hdesc : parseFieldDescriptor (T j).2.2.1 = some .int)
    (ha : jz_F A 0 pc p1 a) (he : jz_I A 1 p1 p2 e) (hd : decode A.1 p2 = .ok (.putfield i, 3)) : jz_T A pc (p2 + 3) (js_puti ci j a e) := by
  intro p l en s m args below meth c S0 bb D cA Q C L h o hf kk
  obtain ⟨x, hx, hf⟩ := jz_bind hf
  obtain ⟨y, hy, hf⟩ := jz_bind hf
  obtain ⟨z, hz, hf⟩ := jz_bind hf
  cases hf
  refine ha p l en s m args below meth c S0 bb D cA Q C L [] h x.1 x.2 hx (Nat.le_refl _) ?_
  refine he p l en s m args below meth c S0 bb D cA Q C L _ x.2 y.1 y.2 hy (Nat.le_refl _) ?_
  exact jz_put C j ty0 hty hnm hcl hin hj hw hfin hdesc rfl rfl hd hz kk
theorem jt_putz {A : jz_A} {pc p1 p2 ci i N : Nat} {Cn : String} {T : u_T} {a : jz_X Nat} {e : jz_X Int32} (j : Nat) (ty0 : Nat → FieldType) (hty : ∀ k, k < N → parseFieldDescriptor (T k).2.2.1 = some (ty0 k)) (hnm : ∀ a, a < N → ∀ b, b < N → a ≠ b → (T a).2.1 ≠ (T b).2.1) (hcl : vwCl[ci]? = some (Cn, T, N)) (hin : ∀ w ∈ u_ws Cn T N, w ∈ jz_tb) (hj : j < N) (hw : Cond.fieldLink A.2.2.1 i (T j).1 (T j).2.1 (T j).2.2.1 ∈ jz_tb) (hfin : (T j).2.2.2 = false) (hdesc : parseFieldDescriptor (T j).2.2.1 = some .boolean)
    (ha : jz_F A 0 pc p1 a) (he : jz_I A 1 p1 p2 e) (hd : decode A.1 p2 = .ok (.putfield i, 3)) : jz_T A pc (p2 + 3) (js_putz ci j a e) := by
  intro p l en s m args below meth c S0 bb D cA Q C L h o hf kk
  obtain ⟨x, hx, hf⟩ := jz_bind hf
  obtain ⟨y, hy, hf⟩ := jz_bind hf
  split at hf
  case isFalse => cases hf
  rename_i hb
  obtain ⟨z, hz, hf⟩ := jz_bind hf
  cases hf
  refine ha p l en s m args below meth c S0 bb D cA Q C L [] h x.1 x.2 hx (Nat.le_refl _) ?_
  refine he p l en s m args below meth c S0 bb D cA Q C L _ x.2 y.1 y.2 hy (Nat.le_refl _) ?_
  have hb2 : narrow .boolean (.int y.1) = .int y.1 ∧ fits .boolean (.int y.1) = true := by
    rcases hb with hb | hb <;> rw [hb] <;> exact ⟨by decide, by decide⟩
  exact jz_put C j ty0 hty hnm hcl hin hj hw hfin hdesc hb2.1 hb2.2 hd hz kk
/-- o.f op= e: the object once, dup, getfield, e, the operation, putfield -/
theorem jt_updf {A : jz_A} {pc p1 p2 p3 ci i N : Nat} {Cn : String} {T : u_T} {a : jz_X Nat} {e : jz_X Int32} {op : Int32 → Int32 → Int32} (j : Nat) (ty0 : Nat → FieldType) (hty : ∀ k, k < N → parseFieldDescriptor (T k).2.2.1 = some (ty0 k)) (hnm : ∀ a, a < N → ∀ b, b < N → a ≠ b → (T a).2.1 ≠ (T b).2.1) (hcl : vwCl[ci]? = some (Cn, T, N)) (hin : ∀ w ∈ u_ws Cn T N, w ∈ jz_tb) (hj : j < N) (hw : Cond.fieldLink A.2.2.1 i (T j).1 (T j).2.1 (T j).2.2.1 ∈ jz_tb) (hfin : (T j).2.2.2 = false) (hdesc : parseFieldDescriptor (T j).2.2.1 = some .int)
    (ha : jz_F A 0 pc p1 a) (hdup : decode A.1 p1 = .ok (.dup, 1)) (hget : decode A.1 (p1 + 1) = .ok (.getfield i, 3)) (he : jz_I A 2 (p1 + 4) p2 e)
    (hop : ∀ p l e s m args below meth c S0 b D cA Q, jz_C p s m args meth c A S0 b D cA → ∀ (L : jz_L) (st : List Value) (h : jz_H) (x y : Int32), jz_W p l e s m args below meth c A S0 b D cA Q p3 L (.int (op x y) :: st) h → jz_W p l e s m args below meth c A S0 b D cA Q p2 L (.int y :: .int x :: st) h)
    (hd : decode A.1 p3 = .ok (.putfield i, 3)) : jz_T A pc (p3 + 3) (js_updf op ci j a e) := by
  intro p l en s m args below meth c S0 bb D cA Q C L h o hf kk
  obtain ⟨x, hx, hf⟩ := jz_bind hf
  obtain ⟨v, hv, hf⟩ := jz_bind hf
  obtain ⟨y, hy, hf⟩ := jz_bind hf
  obtain ⟨z, hz, hf⟩ := jz_bind hf
  cases hf
  obtain ⟨fs, hs, hfs, rfl⟩ := jz_gi_some hv
  refine ha p l en s m args below meth c S0 bb D cA Q C L [] h x.1 x.2 hx (Nat.le_refl _) ?_
  intro H locs ls cells slots hR hS hl hc hss
  refine lv_dup C.1 C.2.1 hdup rfl ?_
  refine va_get (ci := ci) (v := .int (x.2.2 x.1 j)) C.1 C.2.1 C.2.2.2.2.1 hin C.2.2.2.1 C.2.2.2.2.2.1.1 hR x.1 (jz_ws_get hs) hcl j hj (C.2.2.2.2.1 _ hw) (fun _ h9 => h9) (by rw [List.getElem?_mapIdx, hfs]; rfl) hget ?_
  exact he p l en s m args below meth c S0 bb D cA Q C L [.int (x.2.2 x.1 j), .ref x.1] x.2 y.1 y.2 hy (Nat.le_refl _) (hop p l en s m args below meth c S0 bb D cA Q C L _ y.2 _ y.1 (jz_put C j ty0 hty hnm hcl hin hj hw hfin hdesc rfl rfl hd hz kk)) H locs ls cells slots hR hS hl hc hss
theorem jz_opadd {A : jz_A} {pc : Nat} (hd : decode A.1 pc = .ok (.iadd, 1)) : ∀ p l e s m args below meth c S0 b D cA Q, jz_C p s m args meth c A S0 b D cA → ∀ (L : jz_L) (st : List Value) (h : jz_H) (x y : Int32), jz_W p l e s m args below meth c A S0 b D cA Q (pc + 1) L (.int (x + y) :: st) h → jz_W p l e s m args below meth c A S0 b D cA Q pc L (.int y :: .int x :: st) h :=
  fun _ _ _ _ _ _ _ _ _ _ _ _ _ _ C _ _ _ _ _ kk H locs ls cells slots hR hS hl hc hs => lv_iadd C.1 C.2.1 hd (kk H locs ls cells slots hR hS hl hc hs)
theorem jz_opsub {A : jz_A} {pc : Nat} (hd : decode A.1 pc = .ok (.isub, 1)) : ∀ p l e s m args below meth c S0 b D cA Q, jz_C p s m args meth c A S0 b D cA → ∀ (L : jz_L) (st : List Value) (h : jz_H) (x y : Int32), jz_W p l e s m args below meth c A S0 b D cA Q (pc + 1) L (.int (x - y) :: st) h → jz_W p l e s m args below meth c A S0 b D cA Q pc L (.int y :: .int x :: st) h :=
  fun _ _ _ _ _ _ _ _ _ _ _ _ _ _ C _ _ _ _ _ kk H locs ls cells slots hR hS hl hc hs => lv_isub C.1 C.2.1 hd (kk H locs ls cells slots hR hS hl hc hs)
theorem jz_opor {A : jz_A} {pc : Nat} (hd : decode A.1 pc = .ok (.ior, 1)) : ∀ p l e s m args below meth c S0 b D cA Q, jz_C p s m args meth c A S0 b D cA → ∀ (L : jz_L) (st : List Value) (h : jz_H) (x y : Int32), jz_W p l e s m args below meth c A S0 b D cA Q (pc + 1) L (.int (x ||| y) :: st) h → jz_W p l e s m args below meth c A S0 b D cA Q pc L (.int y :: .int x :: st) h :=
  fun _ _ _ _ _ _ _ _ _ _ _ _ _ _ C _ _ _ _ _ kk H locs ls cells slots hR hS hl hc hs => lv_ior C.1 C.2.1 hd (kk H locs ls cells slots hR hS hl hc hs)
theorem jz_st_some {t a : Nat} {i v : Int32} {h h' : jz_H} (hf : jz_st t a i v h = some h') : ∃ n fs, h.1[a]? = some (t, n, fs) ∧ vp_in i n ∧ h' = (h.1, jz_up h.2 a i.toNatClampNeg v) := by
  unfold jz_st at hf
  split at hf
  · next u n fs hs =>
    split at hf
    · next hc => cases hf; obtain ⟨rfl, h2⟩ := hc; exact ⟨n, fs, hs, jz_in_vp h2, rfl⟩
    · cases hf
  · cases hf
theorem jz_iast {p : Program} {l : Launch} {e : Env} {s : State} {m : MethodId} {args : Array Value} {below : List Frame} {meth : Method} {c : Code} {A : jz_A} {S0 b : Nat} {D : va_G} {cA : Nat → ClassId} {Q : State → Prop} {pc : Nat} {L : jz_L} {st : List Value} {h h' : jz_H} (C : jz_C p s m args meth c A S0 b D cA) {a : Nat} {i v : Int32}
    (hd : decode A.1 pc = .ok (.iastore, 1)) (hp : jz_st 1 a i v h = some h') (kk : jz_W p l e s m args below meth c A S0 b D cA Q (pc + 1) L st h') : jz_W p l e s m args below meth c A S0 b D cA Q pc L (.int v :: .int i :: .ref a :: st) h := by
  obtain ⟨n, fs, hs, hin, rfl⟩ := jz_st_some hp
  intro H locs ls cells slots hR hS hl hc hss
  refine va_iast C.1 C.2.1 C.2.2.2.2.2.1.1 hR (jz_D S0 cA h) hS a 0 (jz_ws_get hs) rfl hin hd (fun H1 locs1 hP1 hD1 hS1 => ?_)
  have he := jz_ws_put (S0 := S0) (cA := cA) hs i.toNatClampNeg v
  have hE : (jz_E S0 cA (1, n, fs) (upd (h.2 a) i.toNatClampNeg v)) = .inl (cA 0, n, .inl (upd (h.2 a) i.toNatClampNeg v)) := rfl
  rw [hE] at he
  rw [he] at hP1
  exact kk H1 locs1 ls cells slots hP1 hS1 hl hc hss
theorem jt_iastore {A : jz_A} {pc p1 p2 p3 : Nat} {a : jz_X Nat} {i e : jz_X Int32} (ha : jz_F A 0 pc p1 a) (hi : jz_I A 1 p1 p2 i) (he : jz_I A 2 p2 p3 e) (hd : decode A.1 p3 = .ok (.iastore, 1)) : jz_T A pc (p3 + 1) (js_st a i e) := by
  intro p l en s m args below meth c S0 bb D cA Q C L h o hf kk
  obtain ⟨x, hx, hf⟩ := jz_bind hf
  obtain ⟨y, hy, hf⟩ := jz_bind hf
  obtain ⟨w, hw, hf⟩ := jz_bind hf
  obtain ⟨z, hz, hf⟩ := jz_bind hf
  cases hf
  refine ha p l en s m args below meth c S0 bb D cA Q C L [] h x.1 x.2 hx (Nat.le_refl _) ?_
  refine hi p l en s m args below meth c S0 bb D cA Q C L _ x.2 y.1 y.2 hy (Nat.le_refl _) ?_
  refine he p l en s m args below meth c S0 bb D cA Q C L _ y.2 w.1 w.2 hw (Nat.le_refl _) ?_
  exact jz_iast C hd hz kk
theorem jt_bastore {A : jz_A} {pc p1 p2 p3 : Nat} {a : jz_X Nat} {i e : jz_X Int32} (ha : jz_F A 0 pc p1 a) (hi : jz_I A 1 p1 p2 i) (he : jz_I A 2 p2 p3 e) (hd : decode A.1 p3 = .ok (.bastore, 1)) : jz_T A pc (p3 + 1) (js_stz a i e) := by
  intro p l en s m args below meth c S0 bb D cA Q C L h o hf kk
  obtain ⟨x, hx, hf⟩ := jz_bind hf
  obtain ⟨y, hy, hf⟩ := jz_bind hf
  obtain ⟨w, hw, hf⟩ := jz_bind hf
  obtain ⟨z, hz, hf⟩ := jz_bind hf
  cases hf
  refine ha p l en s m args below meth c S0 bb D cA Q C L [] h x.1 x.2 hx (Nat.le_refl _) ?_
  refine hi p l en s m args below meth c S0 bb D cA Q C L _ x.2 y.1 y.2 hy (Nat.le_refl _) ?_
  refine he p l en s m args below meth c S0 bb D cA Q C L _ y.2 w.1 w.2 hw (Nat.le_refl _) ?_
  obtain ⟨n, fs, hs, hin, rfl⟩ := jz_st_some hz
  intro H locs ls cells slots hR hS hl hc hss
  refine va_zast C.1 C.2.1 C.2.2.2.2.2.1.1 hR (jz_D S0 cA w.2) hS x.1 1 (jz_ws_get hs) rfl hin hd (fun H1 locs1 hP1 hD1 hS1 => ?_)
  have he := jz_ws_put (S0 := S0) (cA := cA) hs y.1.toNatClampNeg (vp_nar .boolean w.1)
  have hE : (jz_E S0 cA (2, n, fs) (upd (w.2.2 x.1) y.1.toNatClampNeg (vp_nar .boolean w.1))) = .inl (cA 1, n, .inl (upd (w.2.2 x.1) y.1.toNatClampNeg (vp_nar .boolean w.1))) := rfl
  rw [hE] at he
  rw [he] at hP1
  exact kk H1 locs1 ls cells slots hP1 hS1 hl hc hss
/-- a[i] op= e: the array and the place once, dup2, iaload, e, the operation, iastore -/
theorem jt_upda {A : jz_A} {pc p1 p2 p3 p4 : Nat} {a : jz_X Nat} {i e : jz_X Int32} {op : Int32 → Int32 → Int32} (ha : jz_F A 0 pc p1 a) (hi : jz_I A 1 p1 p2 i) (hdup : decode A.1 p2 = .ok (.dup2, 1)) (hld : decode A.1 (p2 + 1) = .ok (.iaload, 1)) (he : jz_I A 3 (p2 + 2) p3 e)
    (hop : ∀ p l e s m args below meth c S0 b D cA Q, jz_C p s m args meth c A S0 b D cA → ∀ (L : jz_L) (st : List Value) (h : jz_H) (x y : Int32), jz_W p l e s m args below meth c A S0 b D cA Q p4 L (.int (op x y) :: st) h → jz_W p l e s m args below meth c A S0 b D cA Q p3 L (.int y :: .int x :: st) h)
    (hd : decode A.1 p4 = .ok (.iastore, 1)) : jz_T A pc (p4 + 1) (js_upda op a i e) := by
  intro p l en s m args below meth c S0 bb D cA Q C L h o hf kk
  obtain ⟨x, hx, hf⟩ := jz_bind hf
  obtain ⟨y, hy, hf⟩ := jz_bind hf
  obtain ⟨v, hv, hf⟩ := jz_bind hf
  obtain ⟨w, hw, hf⟩ := jz_bind hf
  obtain ⟨z, hz, hf⟩ := jz_bind hf
  cases hf
  obtain ⟨n, fs, hs, hin, rfl⟩ := jz_ld_some hv
  refine ha p l en s m args below meth c S0 bb D cA Q C L [] h x.1 x.2 hx (Nat.le_refl _) ?_
  refine hi p l en s m args below meth c S0 bb D cA Q C L _ x.2 y.1 y.2 hy (Nat.le_refl _) ?_
  intro H locs ls cells slots hR hS hl hc hss
  refine lv_dup2_11 C.1 C.2.1 hdup rfl rfl ?_
  refine va_iald C.1 C.2.1 C.2.2.2.2.2.1.1 hR x.1 0 (jz_ws_get hs) rfl hin hld ?_
  exact he p l en s m args below meth c S0 bb D cA Q C L [.int (y.2.2 x.1 y.1.toNatClampNeg), .int y.1, .ref x.1] y.2 w.1 w.2 hw (Nat.le_refl _) (hop p l en s m args below meth c S0 bb D cA Q C L _ w.2 _ w.1 (jz_iast C hd hz kk)) H locs ls cells slots hR hS hl hc hss
