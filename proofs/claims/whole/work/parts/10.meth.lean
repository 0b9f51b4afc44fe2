/-! void calls, copies, switches; a method's body gives its contract -/
theorem jt_callV {A : jz_A} {pc p1 idx ci n nL N : Nat} {C : String} {T : u_T} {y : MethodName} {cc : ByteArray} {rm : Room} {M : jz_M Unit} {g : jz_X (List Value)} (hM : jz_MV y cc nL rm M) (hz : rm.cells = 0 ∧ rm.slots = 0) (hcl : vwCl[ci]? = some (C, T, N)) (hg : jz_G A 0 pc p1 g) (hd : decode A.1 p1 = .ok (.invokevirtual idx, 3)) (hn : jz_nm y n)
    (w1 : Cond.methodLink A.2.2.1 idx y ∈ jz_tb) (w2 : Cond.instanceMethod y ∈ jz_tb) (w3 : Cond.selects C y y ∈ jz_tb) (w4 : Cond.initialized y.cls ∈ jz_tb) (w5 : Cond.code y cc nL none ∈ jz_tb) (hR : rm.frames + 1 ≤ A.2.2.2.1.frames ∧ 8 + (nL + 11) + rm.locals ≤ A.2.2.2.1.locals) : jz_T A pc (p1 + 3) (js_call (jz_isO ci n) M g) := by
  intro p l e s m args below meth c S0 bb D cA Q Cx L h o hf kk
  obtain ⟨q, hf0, hf⟩ := jz_bind hf
  cases hf
  obtain ⟨x, hx, hf⟩ := jz_bind hf0
  split at hf
  case isFalse => cases hf
  rename_i hchk
  obtain ⟨q', hq, hf⟩ := jz_bind hf
  split at hf
  case isFalse => cases hf
  rename_i hok
  cases hf
  obtain ⟨d, r, fs, hxe, hrl, hsd⟩ := jz_isO_some hchk
  refine hg p l e s m args below meth c S0 bb D cA Q Cx L [] h x.1 x.2 hx (Nat.le_refl _) ?_
  intro H locs ls cells slots hR1 hS hl hc hs
  refine jz_szw Cx hR1 hc (fun hsz => ?_)
  have hm := hM l S0 bb D cA x.1 x.2 q.2 hq (by rw [hz.1, hz.2]; exact hok)
  obtain ⟨ho1, ho2⟩ := jz_okz hok
  have hst : (x.1.reverse ++ []).map (jz_rho S0 bb) = (r.map (jz_rho S0 bb)).reverse ++ .ref (S0 + d) :: ([] : List Value).map (jz_rho S0 bb) := by rw [hxe]; simp [jz_rho]
  rw [hst]
  have hrun := va_runV (b := S0 + d) (As := r.map (jz_rho S0 bb)) (rest := ([] : List Value).map (jz_rho S0 bb)) (g := F0 m p1 ls ((r.map (jz_rho S0 bb)).reverse ++ .ref (S0 + d) :: ([] : List Value).map (jz_rho S0 bb))) (locs := locs) (cells := cells) (slots := slots) (H := H) (e := e) (below := below) (meth := meth) (jz_fix Cx) hm ⟨jz_callB Cx hn w1 w4 w5 hR, Cx.2.2.2.2.1 _ w2, Cx.2.2.2.2.1 _ w3⟩
    ⟨jz_blind S0 bb D cA x.1 x.2, va_recv Cx.2.2.2.2.2.1.1 hR1 hcl (jz_ws_get hsd), fun U hU hW => ⟨by rw [hxe]; rfl, by rw [hU]; exact hR1, Cx.2.2.2.2.2.1.warm hW, by rw [hU]; exact hsz⟩⟩ rfl (by rw [List.length_map]; exact hrl) hl.1 rfl (lv_room (by rw [jz_catm]; exact Nat.zero_le _)) hd (by rw [hz.1, hz.2]; exact ⟨hs.2.1, hs.2.2⟩)
  refine jz_backv hrun hS hl ?_ ?_ kk
  · rw [hz.1, ho1]; exact hc
  · rw [hz.1, hz.2, ho2]; exact hs
theorem jt_callS {A : jz_A} {pc p1 idx n nL : Nat} {y : MethodName} {cc : ByteArray} {rm : Room} {M : jz_M Unit} {g : jz_X (List Value)} (hM : jz_MV y cc nL rm M) (hz : rm.cells = 0 ∧ rm.slots = 0) (hg : jz_G A 0 pc p1 g) (hd : decode A.1 p1 = .ok (.invokestatic idx, 3)) (hn : jz_nm y n)
    (w1 : Cond.methodLink A.2.2.1 idx y ∈ jz_tb) (w2 : Cond.static y ∈ jz_tb) (w4 : Cond.initialized y.cls ∈ jz_tb) (w5 : Cond.code y cc nL none ∈ jz_tb) (hR : rm.frames + 1 ≤ A.2.2.2.1.frames ∧ 8 + (nL + 11) + rm.locals ≤ A.2.2.2.1.locals) : jz_T A pc (p1 + 3) (js_call (jz_isS n) M g) := by
  intro p l e s m args below meth c S0 bb D cA Q Cx L h o hf kk
  obtain ⟨q, hf0, hf⟩ := jz_bind hf
  cases hf
  obtain ⟨x, hx, hf⟩ := jz_bind hf0
  split at hf
  case isFalse => cases hf
  rename_i hchk
  obtain ⟨q', hq, hf⟩ := jz_bind hf
  split at hf
  case isFalse => cases hf
  rename_i hok
  cases hf
  refine hg p l e s m args below meth c S0 bb D cA Q Cx L [] h x.1 x.2 hx (Nat.le_refl _) ?_
  intro H locs ls cells slots hR1 hS hl hc hs
  refine jz_szw Cx hR1 hc (fun hsz => ?_)
  have hm := hM l S0 bb D cA x.1 x.2 q.2 hq (by rw [hz.1, hz.2]; exact hok)
  obtain ⟨ho1, ho2⟩ := jz_okz hok
  have hst : (x.1.reverse ++ []).map (jz_rho S0 bb) = (x.1.map (jz_rho S0 bb)).reverse ++ ([] : List Value).map (jz_rho S0 bb) := by simp
  rw [hst]
  have hrun := va_runS (As := x.1.map (jz_rho S0 bb)) (rest := ([] : List Value).map (jz_rho S0 bb)) (g := F0 m p1 ls ((x.1.map (jz_rho S0 bb)).reverse ++ ([] : List Value).map (jz_rho S0 bb))) (locs := locs) (cells := cells) (slots := slots) (H := H) (e := e) (below := below) (meth := meth) (jz_fix Cx) hm ⟨jz_callB Cx hn w1 w4 w5 hR, Cx.2.2.2.2.1 _ w2⟩
    ⟨jz_blind S0 bb D cA x.1 x.2, fun U hU hW => ⟨rfl, by rw [hU]; exact hR1, Cx.2.2.2.2.2.1.warm hW, by rw [hU]; exact hsz⟩⟩ rfl (by rw [List.length_map]; simpa [jz_isS] using hchk) hl.1 rfl (lv_room (by rw [jz_catm]; exact Nat.zero_le _)) hd (by rw [hz.1, hz.2]; exact ⟨hs.2.1, hs.2.2⟩)
  refine jz_backv hrun hS hl ?_ ?_ kk
  · rw [hz.1, ho1]; exact hc
  · rw [hz.1, hz.2, ho2]; exact hs
theorem jz_cp_some {a0 a1 : Nat} {sp dp n : Int32} {h h' : jz_H} (hf : jz_cp a0 sp a1 dp n h = some h') : ∃ n0 n1 f0 f1, h.1[a0]? = some (1, n0, f0) ∧ h.1[a1]? = some (1, n1, f1) ∧ ¬ sp < 0 ∧ ¬ dp < 0 ∧ ¬ n < 0 ∧ sp.toNatClampNeg + n.toNatClampNeg ≤ n0 ∧ dp.toNatClampNeg + n.toNatClampNeg ≤ n1 ∧ h' = (h.1, fun x => if x = a1 then va_cpy (h.2 a0) (h.2 a1) sp.toNatClampNeg dp.toNatClampNeg n.toNatClampNeg else h.2 x) := by
  unfold jz_cp at hf
  split at hf
  · next n0 f0 n1 f1 h0 h1 =>
    split at hf
    · next hc =>
      cases hf
      exact ⟨n0, n1, f0, f1, h0, h1, Int32.not_lt.mpr hc.1, Int32.not_lt.mpr hc.2.1, Int32.not_lt.mpr hc.2.2.1, hc.2.2.2.1, hc.2.2.2.2, rfl⟩
    · cases hf
  · cases hf
theorem jt_copy {A : jz_A} {pc p1 idx : Nat} {g : jz_X (List Value)} (hg : jz_G A 0 pc p1 g) (hd : decode A.1 p1 = .ok (.invokestatic idx, 3)) (w1 : Cond.methodLink A.2.2.1 idx arraycopyName ∈ jz_tb) (w2 : Cond.native arraycopyName ∈ jz_tb) (w3 : Cond.static arraycopyName ∈ jz_tb) (w4 : Cond.initialized "java/lang/System" ∈ jz_tb) (hR : 1 ≤ A.2.2.2.1.frames ∧ nativeFrameWords "java/lang/System" "arraycopy" 5 + 11 ≤ A.2.2.2.1.locals) : jz_T A pc (p1 + 3) (js_copy g) := by
  intro p l e s m args below meth c S0 bb D cA Q Cx L h o hf kk
  obtain ⟨x, hx, hf⟩ := jz_bind hf
  refine hg p l e s m args below meth c S0 bb D cA Q Cx L [] h x.1 x.2 hx (Nat.le_refl _) ?_
  split at hf
  · next a0 sp a1 dp n hxe =>
    obtain ⟨z, hz, hf⟩ := jz_bind hf
    cases hf
    obtain ⟨n0, n1, f0, f1, h0, h1, q1, q2, q3, q4, q5, rfl⟩ := jz_cp_some hz
    rw [hxe]
    intro H locs ls cells slots hR1 hS hl hc hs
    refine va_copyi (f := x.2.2 a0) (g := x.2.2 a1) (ty := .int) Cx.1 Cx.2.1 (Cx.2.2.1.trans hl.1.symm) Cx.2.2.2.1 (Cx.2.2.2.2.1 _ w1) (Cx.2.2.2.2.1 _ w2) (Cx.2.2.2.2.1 _ w3) (Cx.2.2.2.2.1 _ w4) Cx.2.2.2.2.2.1.1 hR1 (jz_D S0 cA x.2) hS a0 a1 0 0 (jz_ws_get h0) (jz_ws_get h1) rfl rfl rfl q1 q2 q3 q4 q5 (fun _ _ => rfl) hR.1 (by simpa using hR.2) hd (fun H1 locs1 hP1 hD1 hS1 => ?_)
    have he : (jz_ws S0 cA x.2).set a1 (S0 + a1, .inl (cA 0, n1, .inl (va_cpy (x.2.2 a0) (x.2.2 a1) sp.toNatClampNeg dp.toNatClampNeg n.toNatClampNeg))) = jz_ws S0 cA (x.2.1, fun y => if y = a1 then va_cpy (x.2.2 a0) (x.2.2 a1) sp.toNatClampNeg dp.toNatClampNeg n.toNatClampNeg else x.2.2 y) := by
      apply List.ext_getElem?
      intro i
      by_cases hi : i = a1
      · subst hi
        rw [List.getElem?_set_self (by rw [jz_ws_len]; exact (List.getElem?_eq_some_iff.mp h1).1)]
        rw [jz_ws_get (h := (x.2.1, fun y => if y = i then va_cpy (x.2.2 a0) (x.2.2 i) sp.toNatClampNeg dp.toNatClampNeg n.toNatClampNeg else x.2.2 y)) h1]
        simp [jz_E]
      · rw [List.getElem?_set_ne (fun z => hi z.symm)]
        unfold jz_ws
        rw [List.getElem?_mapIdx, List.getElem?_mapIdx]
        simp only [if_neg hi]
    rw [he] at hP1
    exact kk H1 locs1 ls cells slots hP1 hS1 hl hc hs
  · cases hf
/-- a switch over a table: each arm from its place, all to one end -/
theorem jt_switch {A : jz_A} {pc p1 q len dpc : Nat} {e : jz_X Int32} {dflt lo hi : Int} {offs : Array Int} {ss : List jz_S} {d : jz_S} {ts : List Nat} (he : jz_I A 0 pc p1 e) (hd : decode A.1 p1 = .ok (.tableswitch dflt lo hi offs, len)) (hdp : (p1 : Int) + dflt = (dpc : Int)) (hD : jz_T A dpc q d) (hlen : ((hi - lo).toNat + 1 = ss.length) ∧ lo ≤ hi) (hts : offs.toList.map (fun o => (p1 : Int) + o) = ts.map (fun (t : Nat) => (t : Int))) (htl : ts.length = ss.length) (hss : ∀ (i : Nat) (t : Nat) (s : jz_S), ts[i]? = some t → ss[i]? = some s → jz_T A t q s) : jz_T A pc q (js_switch lo hi e ss d) := by
  intro p l en s m args below meth c S0 bb D cA Q C L h o hf kk
  obtain ⟨x, hx, hf⟩ := jz_bind hf
  refine he p l en s m args below meth c S0 bb D cA Q C L [] h x.1 x.2 hx (Nat.le_refl _) ?_
  unfold jz_sw at hf
  intro H locs ls cells slots hR hS hl hc hs
  split at hf
  · next hout => exact lv_tableOut (tgt := dpc) C.1 C.2.1 hd hout hdp (hD p l en s m args below meth c S0 bb D cA Q C L x.2 o hf kk H locs ls cells slots hR hS hl hc hs)
  · next hin =>
    have h1 : ¬ x.1.toInt < lo := fun z => hin (Or.inl z)
    have h2 : ¬ hi < x.1.toInt := fun z => hin (Or.inr z)
    have hi3 : (x.1.toInt - lo).toNat < ss.length := by omega
    obtain ⟨sx, hsx⟩ : ∃ sx, ss[(x.1.toInt - lo).toNat]? = some sx := ⟨_, List.getElem?_eq_getElem hi3⟩
    obtain ⟨t, ht⟩ : ∃ t, ts[(x.1.toInt - lo).toNat]? = some t := ⟨_, List.getElem?_eq_getElem (by omega)⟩
    have ho : (offs.toList.map (fun o => (p1 : Int) + o))[(x.1.toInt - lo).toNat]? = some (t : Int) := by rw [hts, List.getElem?_map, ht]; rfl
    rw [List.getElem?_map] at ho
    obtain ⟨off, ho1, ho2⟩ := Option.map_eq_some_iff.mp ho
    rw [List.getD_eq_getElem?_getD, hsx] at hf
    refine lv_tableIn (tgt := t) (off := off) C.1 C.2.1 hd h1 h2 (by rw [← Array.getElem?_toList]; exact ho1) ho2 ?_
    exact hss _ t sx ht hsx p l en s m args below meth c S0 bb D cA Q C L x.2 o hf kk H locs ls cells slots hR hS hl hc hs
/-! methods -/
/-- the locals at the entry -/
def jz_ent (nL : Nat) (as : List Value) : jz_L := as.map some ++ List.replicate (nL - as.length) none
def jz_all1 (as : List Value) : Bool := as.all (fun v => v.category == 1)
def jz_runI (nL : Nat) (body : jz_S) (as : List Value) (h : jz_H) : Option (Int32 × jz_H) := if jz_all1 as = true ∧ as.length ≤ nL then (body (jz_ent nL as) h).bind fun o => (match o with
  | .inr (some (.int r), h') => some (r, h')
  | _ => none) else none
def jz_runZ (nL : Nat) (body : jz_S) (as : List Value) (h : jz_H) : Option (Int32 × jz_H) := (jz_runI nL body as h).bind fun x => if x.1 = 0 ∨ x.1 = 1 then some x else none
def jz_runV (nL : Nat) (body : jz_S) (as : List Value) (h : jz_H) : Option (Unit × jz_H) := if jz_all1 as = true ∧ as.length ≤ nL then (body (jz_ent nL as) h).bind fun o => (match o with
  | .inr (none, h') => some ((), h')
  | _ => none) else none
theorem jz_sl1 (as : List Value) (h : jz_all1 as = true) : lg_sl as = as.map Slot.val := by
  induction as with
  | nil => rfl
  | cons v as ih =>
    unfold jz_all1 at h
    simp only [List.all_cons, Bool.and_eq_true, beq_iff_eq] at h
    have := ih (by unfold jz_all1; exact h.2)
    have h1 := h.1
    cases v <;> first | (simp [lg_sl, this]; done) | (cases h1; done) | simp_all [lg_sl]
theorem jz_args1 (as : List Value) (h : jz_all1 as = true) (n : Nat) : lv_args n as = as.mapIdx (fun i v => (n + i, v)) := by
  induction as generalizing n with
  | nil => rfl
  | cons v as ih =>
    unfold jz_all1 at h
    simp only [List.all_cons, Bool.and_eq_true, beq_iff_eq] at h
    have := ih (by unfold jz_all1; exact h.2) (n + 1)
    have h2 : ¬ v.category = 2 := by rw [h.1]; decide
    simp only [lv_args, if_neg h2, this, List.mapIdx_cons]
    simp [Nat.add_assoc, Nat.add_comm 1]
theorem jz_entry (S0 b : Nat) (as : List Value) (nL : Nat) (h : jz_all1 as = true) (hn : as.length ≤ nL) : ∃ ls, lv_has ls nL (jz_lv S0 b (jz_ent nL as)) ∧ ∀ m, entryFrame m (as.map (jz_rho S0 b)).toArray nL = F0 m 0 ls [] := by
  have h' : jz_all1 (as.map (jz_rho S0 b)) = true := by
    unfold jz_all1 at h ⊢
    rw [List.all_map]
    simpa [Function.comp_def, jz_cat] using h
  have hl := lv_entry (as.map (jz_rho S0 b)) (n := nL) (by rw [jz_sl1 _ h']; simpa using hn)
  refine ⟨_, ⟨hl.1, hl.2.1, fun q hq => ?_⟩, fun m => by rw [lg_entry_eq]⟩
  obtain ⟨i, v⟩ := q
  obtain ⟨w, h1, h2, rfl⟩ := jz_lv_mem.mp hq
  refine hl.2.2 _ ?_
  rw [jz_args1 _ h' 0]
  unfold jz_ent at h1
  have hi : i < as.length := by
    rcases Nat.lt_or_ge i as.length with hlt | hge
    · exact hlt
    · rw [List.getElem?_append_right (by simpa using hge)] at h1
      obtain ⟨_, h3⟩ := List.getElem?_eq_some_iff.mp h1
      simp at h3
  rw [List.getElem?_append_left (by simpa using hi), List.getElem?_map] at h1
  obtain ⟨v', h3, h4⟩ := Option.map_eq_some_iff.mp h1
  cases h4
  refine List.mem_mapIdx.mpr ⟨i, by simpa using hi, ?_⟩
  have : as[i] = w := by rw [List.getElem?_eq_getElem hi] at h3; exact Option.some.inj h3
  simp [this]
theorem jz_ok_len {mc ms : Nat} {h h' : jz_H} (hk : jz_ok mc ms h h' = true) : h'.1.length = h.1.length + mc ∧ jz_sz h'.1 = jz_sz h.1 + ms := by
  unfold jz_ok at hk
  simpa using hk
theorem jz_metI {y : MethodName} {cc : ByteArray} {nL : Nat} {rm : Room} {pE : Nat} {body : Nat → Nat → jz_S} (hp : plainName y.cls = true) (hT : ∀ n0 z0, jz_T (cc, nL, y.cls, rm, n0, z0, y.name, none) 0 pE (body n0 z0)) : jz_MI y cc nL (some .int) rm (fun as h => jz_runI nL (body h.1.length (jz_sz h.1)) as h) := by
  intro l S0 b D cA as h r h' hM hok
  obtain ⟨ho1, ho2⟩ := jz_ok_len hok
  refine Met.ofW (cc := cc) (maxL := nL) (ret := some .int) hp rfl ?_
  intro p e s m args below meth c s₁ B hml hv
  obtain ⟨rfl, hR, hK, hsz⟩ := hv
  have hts := atoms_spec (ws := Cond.code y cc nL (some .int) :: jz_tb) B.pre
  have hown : s.vm.findClass y.cls = some m.cls := findClass_of_methodNamed B.named
  have C : jz_C p s m (as.map (jz_rho S0 b)).toArray meth c (cc, nL, y.cls, rm, h.1.length, jz_sz h.1, y.name, none) S0 b D cA := ⟨B.exec, B.bytes, hml, hown, fun w hw => hts w (List.mem_cons_of_mem _ hw), hK, hsz, (name_of_methodNamed B.named B.method).1, fun _ _ z => by cases z⟩
  have hr := B.returns
  have hlocks := B.notSynchronized
  dsimp only at hM
  unfold jz_runI at hM
  split at hM
  case isFalse => cases hM
  rename_i hall
  obtain ⟨ls, hl, hfr⟩ := jz_entry S0 b as nL hall.1 hall.2
  rw [hfr]
  obtain ⟨o, ho, hM⟩ := jz_bind hM
  split at hM
  · next r0 h0 =>
    cases hM
    refine hT h.1.length (jz_sz h.1) p l e s m _ below meth c S0 b D cA (MQ below (jz_Qi S0 D cA r h') (as.map (jz_rho S0 b)).toArray s rm.cells rm.slots (fun q => S0 ≤ q)) C (jz_ent nL as) h _ ho ?_ s.heap [] ls 0 0 hR va_S.rf hl (Nat.zero_add _) ⟨Nat.zero_add _, Nat.zero_le _, Nat.zero_le _⟩
    intro pc H locs ls cells slots hd hR hS hc hs
    have hcc : cells = rm.cells := by have := hc; simp only at this; omega
    have hss : slots = rm.slots := by have := hs.1; simp only at this; omega
    subst hcc; subst hss
    exact W.iret (v := r) B.exec B.bytes hr (fun t ht hW => ⟨⟨r, h', rfl, ⟨rfl, rfl⟩, by show jz_R S0 D cA h' t.heap; rw [ht]; exact hR⟩, hS.F ht⟩) hS.2.2 hd
  · cases hM
theorem jz_metZ {y : MethodName} {cc : ByteArray} {nL : Nat} {rm : Room} {pE : Nat} {body : Nat → Nat → jz_S} (hp : plainName y.cls = true) (hT : ∀ n0 z0, jz_T (cc, nL, y.cls, rm, n0, z0, y.name, none) 0 pE (body n0 z0)) : jz_MI y cc nL (some .boolean) rm (fun as h => jz_runZ nL (body h.1.length (jz_sz h.1)) as h) := by
  intro l S0 b D cA as h r h' hM hok
  obtain ⟨ho1, ho2⟩ := jz_ok_len hok
  refine Met.ofW (cc := cc) (maxL := nL) (ret := some .boolean) hp rfl ?_
  intro p e s m args below meth c s₁ B hml hv
  obtain ⟨rfl, hR, hK, hsz⟩ := hv
  have hts := atoms_spec (ws := Cond.code y cc nL (some .boolean) :: jz_tb) B.pre
  have hown : s.vm.findClass y.cls = some m.cls := findClass_of_methodNamed B.named
  have C : jz_C p s m (as.map (jz_rho S0 b)).toArray meth c (cc, nL, y.cls, rm, h.1.length, jz_sz h.1, y.name, none) S0 b D cA := ⟨B.exec, B.bytes, hml, hown, fun w hw => hts w (List.mem_cons_of_mem _ hw), hK, hsz, (name_of_methodNamed B.named B.method).1, fun _ _ z => by cases z⟩
  have hr := B.returns
  have hlocks := B.notSynchronized
  obtain ⟨x, hM, hM2⟩ := jz_bind hM
  split at hM2
  case isFalse => cases hM2
  rename_i hbool
  cases hM2
  unfold jz_runI at hM
  split at hM
  case isFalse => cases hM
  rename_i hall
  obtain ⟨ls, hl, hfr⟩ := jz_entry S0 b as nL hall.1 hall.2
  rw [hfr]
  obtain ⟨o, ho, hM⟩ := jz_bind hM
  split at hM
  · next r0 h0 =>
    cases hM
    refine hT h.1.length (jz_sz h.1) p l e s m _ below meth c S0 b D cA (MQ below (jz_Qi S0 D cA r h') (as.map (jz_rho S0 b)).toArray s rm.cells rm.slots (fun q => S0 ≤ q)) C (jz_ent nL as) h _ ho ?_ s.heap [] ls 0 0 hR va_S.rf hl (Nat.zero_add _) ⟨Nat.zero_add _, Nat.zero_le _, Nat.zero_le _⟩
    intro pc H locs ls cells slots hd hR hS hc hs
    have hcc : cells = rm.cells := by have := hc; simp only at this; omega
    have hss : slots = rm.slots := by have := hs.1; simp only at this; omega
    subst hcc; subst hss
    have hn : narrow .boolean (.int r) = .int r := by
      rcases hbool with hb | hb <;> (simp only at hb; rw [hb]; decide)
    exact W.zret (v := r) (ty := .boolean) B.exec B.bytes hr hn (fun t ht hW => ⟨⟨r, h', rfl, ⟨rfl, rfl⟩, by show jz_R S0 D cA h' t.heap; rw [ht]; exact hR⟩, hS.F ht⟩) hS.2.2 hd
  · cases hM
theorem jz_metV {y : MethodName} {cc : ByteArray} {nL : Nat} {rm : Room} {pE : Nat} {body : Nat → Nat → jz_S} (hp : plainName y.cls = true) (hT : ∀ n0 z0, jz_T (cc, nL, y.cls, rm, n0, z0, y.name, none) 0 pE (body n0 z0)) : jz_MV y cc nL rm (fun as h => jz_runV nL (body h.1.length (jz_sz h.1)) as h) := by
  intro l S0 b D cA as h h' hM hok
  obtain ⟨ho1, ho2⟩ := jz_ok_len hok
  refine Met.ofW (cc := cc) (maxL := nL) (ret := none) hp rfl ?_
  intro p e s m args below meth c s₁ B hml hv
  obtain ⟨rfl, hR, hK, hsz⟩ := hv
  have hts := atoms_spec (ws := Cond.code y cc nL none :: jz_tb) B.pre
  have hown : s.vm.findClass y.cls = some m.cls := findClass_of_methodNamed B.named
  have C : jz_C p s m (as.map (jz_rho S0 b)).toArray meth c (cc, nL, y.cls, rm, h.1.length, jz_sz h.1, y.name, none) S0 b D cA := ⟨B.exec, B.bytes, hml, hown, fun w hw => hts w (List.mem_cons_of_mem _ hw), hK, hsz, (name_of_methodNamed B.named B.method).1, fun _ _ z => by cases z⟩
  have hr := B.returns
  have hlocks := B.notSynchronized
  dsimp only at hM
  unfold jz_runV at hM
  split at hM
  case isFalse => cases hM
  rename_i hall
  obtain ⟨ls, hl, hfr⟩ := jz_entry S0 b as nL hall.1 hall.2
  rw [hfr]
  obtain ⟨o, ho, hM⟩ := jz_bind hM
  split at hM
  · next h0 =>
    cases hM
    refine hT h.1.length (jz_sz h.1) p l e s m _ below meth c S0 b D cA (MQ below (jz_Qv S0 D cA h') (as.map (jz_rho S0 b)).toArray s rm.cells rm.slots (fun q => S0 ≤ q)) C (jz_ent nL as) h _ ho ?_ s.heap [] ls 0 0 hR va_S.rf hl (Nat.zero_add _) ⟨Nat.zero_add _, Nat.zero_le _, Nat.zero_le _⟩
    intro pc H locs ls cells slots hd hR hS hc hs
    have hcc : cells = rm.cells := by have := hc; simp only at this; omega
    have hss : slots = rm.slots := by have := hs.1; simp only at this; omega
    subst hcc; subst hss
    exact W.vret B.exec B.bytes hr (fun t ht hW => ⟨⟨h', rfl, rfl, by show jz_R S0 D cA h' t.heap; rw [ht]; exact hR⟩, hS.F ht⟩) hS.2.2 hd
  · cases hM
