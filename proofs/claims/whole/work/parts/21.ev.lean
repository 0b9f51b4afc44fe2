/-! how meanings are computed: a row a form, in applied form (so that what stands in a loop stays as it is) -/
theorem ent_1_1 (v0 : Value) : jz_ent 1 [v0] = [some v0] := rfl
theorem ent_2_1 (v0 : Value) : jz_ent 2 [v0] = [some v0, none] := rfl
theorem ent_2_2 (v0 v1 : Value) : jz_ent 2 [v0, v1] = [some v0, some v1] := rfl
theorem ent_3_1 (v0 : Value) : jz_ent 3 [v0] = [some v0, none, none] := rfl
theorem ent_3_2 (v0 v1 : Value) : jz_ent 3 [v0, v1] = [some v0, some v1, none] := rfl
theorem ent_3_3 (v0 v1 v2 : Value) : jz_ent 3 [v0, v1, v2] = [some v0, some v1, some v2] := rfl
theorem ent_4_1 (v0 : Value) : jz_ent 4 [v0] = [some v0, none, none, none] := rfl
theorem ent_4_2 (v0 v1 : Value) : jz_ent 4 [v0, v1] = [some v0, some v1, none, none] := rfl
theorem ent_4_3 (v0 v1 v2 : Value) : jz_ent 4 [v0, v1, v2] = [some v0, some v1, some v2, none] := rfl
theorem ent_4_4 (v0 v1 v2 v3 : Value) : jz_ent 4 [v0, v1, v2, v3] = [some v0, some v1, some v2, some v3] := rfl
theorem ent_5_1 (v0 : Value) : jz_ent 5 [v0] = [some v0, none, none, none, none] := rfl
theorem ent_5_2 (v0 v1 : Value) : jz_ent 5 [v0, v1] = [some v0, some v1, none, none, none] := rfl
theorem ent_5_3 (v0 v1 v2 : Value) : jz_ent 5 [v0, v1, v2] = [some v0, some v1, some v2, none, none] := rfl
theorem ent_5_4 (v0 v1 v2 v3 : Value) : jz_ent 5 [v0, v1, v2, v3] = [some v0, some v1, some v2, some v3, none] := rfl
theorem ent_5_5 (v0 v1 v2 v3 v4 : Value) : jz_ent 5 [v0, v1, v2, v3, v4] = [some v0, some v1, some v2, some v3, some v4] := rfl
theorem ent_6_1 (v0 : Value) : jz_ent 6 [v0] = [some v0, none, none, none, none, none] := rfl
theorem ent_6_2 (v0 v1 : Value) : jz_ent 6 [v0, v1] = [some v0, some v1, none, none, none, none] := rfl
theorem ent_6_3 (v0 v1 v2 : Value) : jz_ent 6 [v0, v1, v2] = [some v0, some v1, some v2, none, none, none] := rfl
theorem ent_6_4 (v0 v1 v2 v3 : Value) : jz_ent 6 [v0, v1, v2, v3] = [some v0, some v1, some v2, some v3, none, none] := rfl
theorem ent_6_5 (v0 v1 v2 v3 v4 : Value) : jz_ent 6 [v0, v1, v2, v3, v4] = [some v0, some v1, some v2, some v3, some v4, none] := rfl
theorem ent_6_6 (v0 v1 v2 v3 v4 v5 : Value) : jz_ent 6 [v0, v1, v2, v3, v4, v5] = [some v0, some v1, some v2, some v3, some v4, some v5] := rfl
theorem ent_7_1 (v0 : Value) : jz_ent 7 [v0] = [some v0, none, none, none, none, none, none] := rfl
theorem ent_7_2 (v0 v1 : Value) : jz_ent 7 [v0, v1] = [some v0, some v1, none, none, none, none, none] := rfl
theorem ent_7_3 (v0 v1 v2 : Value) : jz_ent 7 [v0, v1, v2] = [some v0, some v1, some v2, none, none, none, none] := rfl
theorem ent_7_4 (v0 v1 v2 v3 : Value) : jz_ent 7 [v0, v1, v2, v3] = [some v0, some v1, some v2, some v3, none, none, none] := rfl
theorem ent_7_5 (v0 v1 v2 v3 v4 : Value) : jz_ent 7 [v0, v1, v2, v3, v4] = [some v0, some v1, some v2, some v3, some v4, none, none] := rfl
theorem ent_7_6 (v0 v1 v2 v3 v4 v5 : Value) : jz_ent 7 [v0, v1, v2, v3, v4, v5] = [some v0, some v1, some v2, some v3, some v4, some v5, none] := rfl
theorem ent_8_1 (v0 : Value) : jz_ent 8 [v0] = [some v0, none, none, none, none, none, none, none] := rfl
theorem ent_8_2 (v0 v1 : Value) : jz_ent 8 [v0, v1] = [some v0, some v1, none, none, none, none, none, none] := rfl
theorem ent_8_3 (v0 v1 v2 : Value) : jz_ent 8 [v0, v1, v2] = [some v0, some v1, some v2, none, none, none, none, none] := rfl
theorem ent_8_4 (v0 v1 v2 v3 : Value) : jz_ent 8 [v0, v1, v2, v3] = [some v0, some v1, some v2, some v3, none, none, none, none] := rfl
theorem ent_8_5 (v0 v1 v2 v3 v4 : Value) : jz_ent 8 [v0, v1, v2, v3, v4] = [some v0, some v1, some v2, some v3, some v4, none, none, none] := rfl
theorem ent_8_6 (v0 v1 v2 v3 v4 v5 : Value) : jz_ent 8 [v0, v1, v2, v3, v4, v5] = [some v0, some v1, some v2, some v3, some v4, some v5, none, none] := rfl
theorem ent_9_1 (v0 : Value) : jz_ent 9 [v0] = [some v0, none, none, none, none, none, none, none, none] := rfl
theorem ent_9_2 (v0 v1 : Value) : jz_ent 9 [v0, v1] = [some v0, some v1, none, none, none, none, none, none, none] := rfl
theorem ent_9_3 (v0 v1 v2 : Value) : jz_ent 9 [v0, v1, v2] = [some v0, some v1, some v2, none, none, none, none, none, none] := rfl
theorem ent_9_4 (v0 v1 v2 v3 : Value) : jz_ent 9 [v0, v1, v2, v3] = [some v0, some v1, some v2, some v3, none, none, none, none, none] := rfl
theorem ent_9_5 (v0 v1 v2 v3 v4 : Value) : jz_ent 9 [v0, v1, v2, v3, v4] = [some v0, some v1, some v2, some v3, some v4, none, none, none, none] := rfl
theorem ent_9_6 (v0 v1 v2 v3 v4 v5 : Value) : jz_ent 9 [v0, v1, v2, v3, v4, v5] = [some v0, some v1, some v2, some v3, some v4, some v5, none, none, none] := rfl
theorem ev_int (v : Int32) (L : jz_L) (h : jz_H) : je_int v L h = some (v, h) := rfl
theorem ev_lng (v : Int64) (L : jz_L) (h : jz_H) : je_lng v L h = some (v, h) := rfl
theorem ev_loc0 (x : Int32) (L : jz_L) (h : jz_H) : je_loc 0 (some (.int x) :: L) h = some (x, h) := rfl
theorem ev_lor0 (x : Nat) (L : jz_L) (h : jz_H) : je_lor 0 (some (.ref x) :: L) h = some (x, h) := rfl
theorem ev_seti0 (b : Option Value) (e : jz_X Int32) (L : jz_L) (h : jz_H) : js_seti 0 e (b :: L) h = (e (b :: L) h).bind fun x => some (.inl (some (.int x.1) :: L, x.2)) := rfl
theorem ev_setr0 (b : Option Value) (e : jz_X Nat) (L : jz_L) (h : jz_H) : js_setr 0 e (b :: L) h = (e (b :: L) h).bind fun x => some (.inl (some (.ref x.1) :: L, x.2)) := rfl
theorem ev_inc0 (x n : Int32) (L : jz_L) (h : jz_H) : js_inc 0 n (some (.int x) :: L) h = some (.inl (some (.int (x + n)) :: L, h)) := rfl
theorem ev_loc1 (a0 : Option Value) (x : Int32) (L : jz_L) (h : jz_H) : je_loc 1 (a0 :: some (.int x) :: L) h = some (x, h) := rfl
theorem ev_lor1 (a0 : Option Value) (x : Nat) (L : jz_L) (h : jz_H) : je_lor 1 (a0 :: some (.ref x) :: L) h = some (x, h) := rfl
theorem ev_seti1 (a0 : Option Value) (b : Option Value) (e : jz_X Int32) (L : jz_L) (h : jz_H) : js_seti 1 e (a0 :: b :: L) h = (e (a0 :: b :: L) h).bind fun x => some (.inl (a0 :: some (.int x.1) :: L, x.2)) := rfl
theorem ev_setr1 (a0 : Option Value) (b : Option Value) (e : jz_X Nat) (L : jz_L) (h : jz_H) : js_setr 1 e (a0 :: b :: L) h = (e (a0 :: b :: L) h).bind fun x => some (.inl (a0 :: some (.ref x.1) :: L, x.2)) := rfl
theorem ev_inc1 (a0 : Option Value) (x n : Int32) (L : jz_L) (h : jz_H) : js_inc 1 n (a0 :: some (.int x) :: L) h = some (.inl (a0 :: some (.int (x + n)) :: L, h)) := rfl
theorem ev_loc2 (a0 a1 : Option Value) (x : Int32) (L : jz_L) (h : jz_H) : je_loc 2 (a0 :: a1 :: some (.int x) :: L) h = some (x, h) := rfl
theorem ev_lor2 (a0 a1 : Option Value) (x : Nat) (L : jz_L) (h : jz_H) : je_lor 2 (a0 :: a1 :: some (.ref x) :: L) h = some (x, h) := rfl
theorem ev_seti2 (a0 a1 : Option Value) (b : Option Value) (e : jz_X Int32) (L : jz_L) (h : jz_H) : js_seti 2 e (a0 :: a1 :: b :: L) h = (e (a0 :: a1 :: b :: L) h).bind fun x => some (.inl (a0 :: a1 :: some (.int x.1) :: L, x.2)) := rfl
theorem ev_setr2 (a0 a1 : Option Value) (b : Option Value) (e : jz_X Nat) (L : jz_L) (h : jz_H) : js_setr 2 e (a0 :: a1 :: b :: L) h = (e (a0 :: a1 :: b :: L) h).bind fun x => some (.inl (a0 :: a1 :: some (.ref x.1) :: L, x.2)) := rfl
theorem ev_inc2 (a0 a1 : Option Value) (x n : Int32) (L : jz_L) (h : jz_H) : js_inc 2 n (a0 :: a1 :: some (.int x) :: L) h = some (.inl (a0 :: a1 :: some (.int (x + n)) :: L, h)) := rfl
theorem ev_loc3 (a0 a1 a2 : Option Value) (x : Int32) (L : jz_L) (h : jz_H) : je_loc 3 (a0 :: a1 :: a2 :: some (.int x) :: L) h = some (x, h) := rfl
theorem ev_lor3 (a0 a1 a2 : Option Value) (x : Nat) (L : jz_L) (h : jz_H) : je_lor 3 (a0 :: a1 :: a2 :: some (.ref x) :: L) h = some (x, h) := rfl
theorem ev_seti3 (a0 a1 a2 : Option Value) (b : Option Value) (e : jz_X Int32) (L : jz_L) (h : jz_H) : js_seti 3 e (a0 :: a1 :: a2 :: b :: L) h = (e (a0 :: a1 :: a2 :: b :: L) h).bind fun x => some (.inl (a0 :: a1 :: a2 :: some (.int x.1) :: L, x.2)) := rfl
theorem ev_setr3 (a0 a1 a2 : Option Value) (b : Option Value) (e : jz_X Nat) (L : jz_L) (h : jz_H) : js_setr 3 e (a0 :: a1 :: a2 :: b :: L) h = (e (a0 :: a1 :: a2 :: b :: L) h).bind fun x => some (.inl (a0 :: a1 :: a2 :: some (.ref x.1) :: L, x.2)) := rfl
theorem ev_inc3 (a0 a1 a2 : Option Value) (x n : Int32) (L : jz_L) (h : jz_H) : js_inc 3 n (a0 :: a1 :: a2 :: some (.int x) :: L) h = some (.inl (a0 :: a1 :: a2 :: some (.int (x + n)) :: L, h)) := rfl
theorem ev_loc4 (a0 a1 a2 a3 : Option Value) (x : Int32) (L : jz_L) (h : jz_H) : je_loc 4 (a0 :: a1 :: a2 :: a3 :: some (.int x) :: L) h = some (x, h) := rfl
theorem ev_seti4 (a0 a1 a2 a3 : Option Value) (b : Option Value) (e : jz_X Int32) (L : jz_L) (h : jz_H) : js_seti 4 e (a0 :: a1 :: a2 :: a3 :: b :: L) h = (e (a0 :: a1 :: a2 :: a3 :: b :: L) h).bind fun x => some (.inl (a0 :: a1 :: a2 :: a3 :: some (.int x.1) :: L, x.2)) := rfl
theorem ev_setr4 (a0 a1 a2 a3 : Option Value) (b : Option Value) (e : jz_X Nat) (L : jz_L) (h : jz_H) : js_setr 4 e (a0 :: a1 :: a2 :: a3 :: b :: L) h = (e (a0 :: a1 :: a2 :: a3 :: b :: L) h).bind fun x => some (.inl (a0 :: a1 :: a2 :: a3 :: some (.ref x.1) :: L, x.2)) := rfl
theorem ev_inc4 (a0 a1 a2 a3 : Option Value) (x n : Int32) (L : jz_L) (h : jz_H) : js_inc 4 n (a0 :: a1 :: a2 :: a3 :: some (.int x) :: L) h = some (.inl (a0 :: a1 :: a2 :: a3 :: some (.int (x + n)) :: L, h)) := rfl
theorem ev_loc5 (a0 a1 a2 a3 a4 : Option Value) (x : Int32) (L : jz_L) (h : jz_H) : je_loc 5 (a0 :: a1 :: a2 :: a3 :: a4 :: some (.int x) :: L) h = some (x, h) := rfl
theorem ev_seti5 (a0 a1 a2 a3 a4 : Option Value) (b : Option Value) (e : jz_X Int32) (L : jz_L) (h : jz_H) : js_seti 5 e (a0 :: a1 :: a2 :: a3 :: a4 :: b :: L) h = (e (a0 :: a1 :: a2 :: a3 :: a4 :: b :: L) h).bind fun x => some (.inl (a0 :: a1 :: a2 :: a3 :: a4 :: some (.int x.1) :: L, x.2)) := rfl
theorem ev_setr5 (a0 a1 a2 a3 a4 : Option Value) (b : Option Value) (e : jz_X Nat) (L : jz_L) (h : jz_H) : js_setr 5 e (a0 :: a1 :: a2 :: a3 :: a4 :: b :: L) h = (e (a0 :: a1 :: a2 :: a3 :: a4 :: b :: L) h).bind fun x => some (.inl (a0 :: a1 :: a2 :: a3 :: a4 :: some (.ref x.1) :: L, x.2)) := rfl
theorem ev_inc5 (a0 a1 a2 a3 a4 : Option Value) (x n : Int32) (L : jz_L) (h : jz_H) : js_inc 5 n (a0 :: a1 :: a2 :: a3 :: a4 :: some (.int x) :: L) h = some (.inl (a0 :: a1 :: a2 :: a3 :: a4 :: some (.int (x + n)) :: L, h)) := rfl
theorem ev_loc6 (a0 a1 a2 a3 a4 a5 : Option Value) (x : Int32) (L : jz_L) (h : jz_H) : je_loc 6 (a0 :: a1 :: a2 :: a3 :: a4 :: a5 :: some (.int x) :: L) h = some (x, h) := rfl
theorem ev_seti6 (a0 a1 a2 a3 a4 a5 : Option Value) (b : Option Value) (e : jz_X Int32) (L : jz_L) (h : jz_H) : js_seti 6 e (a0 :: a1 :: a2 :: a3 :: a4 :: a5 :: b :: L) h = (e (a0 :: a1 :: a2 :: a3 :: a4 :: a5 :: b :: L) h).bind fun x => some (.inl (a0 :: a1 :: a2 :: a3 :: a4 :: a5 :: some (.int x.1) :: L, x.2)) := rfl
theorem ev_setr6 (a0 a1 a2 a3 a4 a5 : Option Value) (b : Option Value) (e : jz_X Nat) (L : jz_L) (h : jz_H) : js_setr 6 e (a0 :: a1 :: a2 :: a3 :: a4 :: a5 :: b :: L) h = (e (a0 :: a1 :: a2 :: a3 :: a4 :: a5 :: b :: L) h).bind fun x => some (.inl (a0 :: a1 :: a2 :: a3 :: a4 :: a5 :: some (.ref x.1) :: L, x.2)) := rfl
theorem ev_inc6 (a0 a1 a2 a3 a4 a5 : Option Value) (x n : Int32) (L : jz_L) (h : jz_H) : js_inc 6 n (a0 :: a1 :: a2 :: a3 :: a4 :: a5 :: some (.int x) :: L) h = some (.inl (a0 :: a1 :: a2 :: a3 :: a4 :: a5 :: some (.int (x + n)) :: L, h)) := rfl
theorem ev_loc7 (a0 a1 a2 a3 a4 a5 a6 : Option Value) (x : Int32) (L : jz_L) (h : jz_H) : je_loc 7 (a0 :: a1 :: a2 :: a3 :: a4 :: a5 :: a6 :: some (.int x) :: L) h = some (x, h) := rfl
theorem ev_seti7 (a0 a1 a2 a3 a4 a5 a6 : Option Value) (b : Option Value) (e : jz_X Int32) (L : jz_L) (h : jz_H) : js_seti 7 e (a0 :: a1 :: a2 :: a3 :: a4 :: a5 :: a6 :: b :: L) h = (e (a0 :: a1 :: a2 :: a3 :: a4 :: a5 :: a6 :: b :: L) h).bind fun x => some (.inl (a0 :: a1 :: a2 :: a3 :: a4 :: a5 :: a6 :: some (.int x.1) :: L, x.2)) := rfl
theorem ev_setr7 (a0 a1 a2 a3 a4 a5 a6 : Option Value) (b : Option Value) (e : jz_X Nat) (L : jz_L) (h : jz_H) : js_setr 7 e (a0 :: a1 :: a2 :: a3 :: a4 :: a5 :: a6 :: b :: L) h = (e (a0 :: a1 :: a2 :: a3 :: a4 :: a5 :: a6 :: b :: L) h).bind fun x => some (.inl (a0 :: a1 :: a2 :: a3 :: a4 :: a5 :: a6 :: some (.ref x.1) :: L, x.2)) := rfl
theorem ev_inc7 (a0 a1 a2 a3 a4 a5 a6 : Option Value) (x n : Int32) (L : jz_L) (h : jz_H) : js_inc 7 n (a0 :: a1 :: a2 :: a3 :: a4 :: a5 :: a6 :: some (.int x) :: L) h = some (.inl (a0 :: a1 :: a2 :: a3 :: a4 :: a5 :: a6 :: some (.int (x + n)) :: L, h)) := rfl
theorem ev_loc8 (a0 a1 a2 a3 a4 a5 a6 a7 : Option Value) (x : Int32) (L : jz_L) (h : jz_H) : je_loc 8 (a0 :: a1 :: a2 :: a3 :: a4 :: a5 :: a6 :: a7 :: some (.int x) :: L) h = some (x, h) := rfl
theorem ev_seti8 (a0 a1 a2 a3 a4 a5 a6 a7 : Option Value) (b : Option Value) (e : jz_X Int32) (L : jz_L) (h : jz_H) : js_seti 8 e (a0 :: a1 :: a2 :: a3 :: a4 :: a5 :: a6 :: a7 :: b :: L) h = (e (a0 :: a1 :: a2 :: a3 :: a4 :: a5 :: a6 :: a7 :: b :: L) h).bind fun x => some (.inl (a0 :: a1 :: a2 :: a3 :: a4 :: a5 :: a6 :: a7 :: some (.int x.1) :: L, x.2)) := rfl
theorem ev_setr8 (a0 a1 a2 a3 a4 a5 a6 a7 : Option Value) (b : Option Value) (e : jz_X Nat) (L : jz_L) (h : jz_H) : js_setr 8 e (a0 :: a1 :: a2 :: a3 :: a4 :: a5 :: a6 :: a7 :: b :: L) h = (e (a0 :: a1 :: a2 :: a3 :: a4 :: a5 :: a6 :: a7 :: b :: L) h).bind fun x => some (.inl (a0 :: a1 :: a2 :: a3 :: a4 :: a5 :: a6 :: a7 :: some (.ref x.1) :: L, x.2)) := rfl
theorem ev_inc8 (a0 a1 a2 a3 a4 a5 a6 a7 : Option Value) (x n : Int32) (L : jz_L) (h : jz_H) : js_inc 8 n (a0 :: a1 :: a2 :: a3 :: a4 :: a5 :: a6 :: a7 :: some (.int x) :: L) h = some (.inl (a0 :: a1 :: a2 :: a3 :: a4 :: a5 :: a6 :: a7 :: some (.int (x + n)) :: L, h)) := rfl
theorem ev_bin {α β γ : Type} (op : α → β → γ) (a : jz_X α) (b : jz_X β) (L : jz_L) (h : jz_H) : je_bin op a b L h = (a L h).bind fun x => (b L x.2).bind fun y => some (op x.1 y.1, y.2) := rfl
theorem ev_un {α β : Type} (op : α → β) (a : jz_X α) (L : jz_L) (h : jz_H) : je_un op a L h = (a L h).bind fun x => some (op x.1, x.2) := rfl
theorem ev_div (op : Int32 → Int32 → Int32) (a b : jz_X Int32) (L : jz_L) (h : jz_H) : je_div op a b L h = (a L h).bind fun x => (b L x.2).bind fun y => if y.1 = 0 then none else some (op x.1 y.1, y.2) := rfl
theorem ev_ldiv (op : Int64 → Int64 → Int64) (a b : jz_X Int64) (L : jz_L) (h : jz_H) : je_ldiv op a b L h = (a L h).bind fun x => (b L x.2).bind fun y => if y.1 = 0 then none else some (op x.1 y.1, y.2) := rfl
theorem ev_fi (ci k : Nat) (a : jz_X Nat) (L : jz_L) (h : jz_H) : je_fi ci k a L h = (a L h).bind fun x => (jz_gi ci k x.1 x.2).bind fun v => some (v, x.2) := rfl
theorem ev_fr (ci k : Nat) (a : jz_X Nat) (L : jz_L) (h : jz_H) : je_fr ci k a L h = (a L h).bind fun x => (jz_gr ci k x.1 x.2).bind fun v => some (v, x.2) := rfl
theorem ev_ld (t : Nat) (a : jz_X Nat) (i : jz_X Int32) (L : jz_L) (h : jz_H) : je_ld t a i L h = (a L h).bind fun x => (i L x.2).bind fun y => (jz_ld t x.1 y.1 y.2).bind fun v => some (v, y.2) := rfl
theorem ev_lr (t : Nat) (a : jz_X Nat) (i : jz_X Int32) (L : jz_L) (h : jz_H) : je_lr t a i L h = (a L h).bind fun x => (i L x.2).bind fun y => (jz_lr t x.1 y.1 y.2).bind fun v => some (v, y.2) := rfl
theorem ev_and (a b : jz_X Bool) (L : jz_L) (h : jz_H) : jb_and a b L h = (a L h).bind fun x => if x.1 = true then b L x.2 else some (false, x.2) := rfl
theorem ev_or (a b : jz_X Bool) (L : jz_L) (h : jz_H) : jb_or a b L h = (a L h).bind fun x => if x.1 = true then some (true, x.2) else b L x.2 := rfl
theorem ev_not (a : jz_X Bool) (L : jz_L) (h : jz_H) : jb_not a L h = (a L h).bind fun x => some (!x.1, x.2) := rfl
theorem ev_of (a : jz_X Int32) (L : jz_L) (h : jz_H) : jb_of a L h = (a L h).bind fun x => some (decide (¬ x.1 = 0), x.2) := rfl
theorem ev_ite {α : Type} (c : jz_X Bool) (a b : jz_X α) (L : jz_L) (h : jz_H) : je_ite c a b L h = (c L h).bind fun x => if x.1 = true then a L x.2 else b L x.2 := rfl
theorem ev_gnil (L : jz_L) (h : jz_H) : jg_nil L h = some ([], h) := rfl
theorem ev_gcons {α : Type} (inj : α → Value) (a : jz_X α) (r : jz_X (List Value)) (L : jz_L) (h : jz_H) : jg_cons inj a r L h = (a L h).bind fun x => (r L x.2).bind fun y => some (inj x.1 :: y.1, y.2) := rfl
theorem ev_call {α : Type} (chk : List Value → jz_H → Bool) (M : jz_M α) (g : jz_X (List Value)) (L : jz_L) (h : jz_H) : je_call chk M g L h = (g L h).bind fun x => if chk x.1 x.2 = true then (M x.1 x.2).bind fun q => if jz_ok 0 0 x.2 q.2 = true then some q else none else none := rfl
theorem ev_seq (a b : jz_S) (L : jz_L) (h : jz_H) : js_seq a b L h = (a L h).bind fun o => match o with
  | .inl x => b x.1 x.2
  | .inr y => some (.inr y) := rfl
theorem ev_if (c : jz_X Bool) (a b : jz_S) (L : jz_L) (h : jz_H) : js_if c a b L h = (c L h).bind fun x => if x.1 = true then a L x.2 else b L x.2 := rfl
theorem ev_skip (L : jz_L) (h : jz_H) : js_skip L h = some (.inl (L, h)) := rfl
theorem ev_ret (e : jz_X Int32) (L : jz_L) (h : jz_H) : js_ret e L h = (e L h).bind fun x => some (.inr (some (.int x.1), x.2)) := rfl
theorem ev_retv (L : jz_L) (h : jz_H) : js_retv L h = some (.inr (none, h)) := rfl
theorem ev_pop (e : jz_X Int32) (L : jz_L) (h : jz_H) : js_pop e L h = (e L h).bind fun x => some (.inl (L, x.2)) := rfl
theorem ev_puti (ci k : Nat) (a : jz_X Nat) (e : jz_X Int32) (L : jz_L) (h : jz_H) : js_puti ci k a e L h = (a L h).bind fun x => (e L x.2).bind fun y => (jz_pi ci k x.1 y.1 y.2).bind fun z => some (.inl (L, z)) := rfl
theorem ev_putz (ci k : Nat) (a : jz_X Nat) (e : jz_X Int32) (L : jz_L) (h : jz_H) : js_putz ci k a e L h = (a L h).bind fun x => (e L x.2).bind fun y => if y.1 = 0 ∨ y.1 = 1 then (jz_pi ci k x.1 y.1 y.2).bind fun z => some (.inl (L, z)) else none := rfl
theorem ev_updf (op : Int32 → Int32 → Int32) (ci k : Nat) (a : jz_X Nat) (e : jz_X Int32) (L : jz_L) (h : jz_H) : js_updf op ci k a e L h = (a L h).bind fun x => (jz_gi ci k x.1 x.2).bind fun v => (e L x.2).bind fun y => (jz_pi ci k x.1 (op v y.1) y.2).bind fun z => some (.inl (L, z)) := rfl
theorem ev_st (a : jz_X Nat) (i e : jz_X Int32) (L : jz_L) (h : jz_H) : js_st a i e L h = (a L h).bind fun x => (i L x.2).bind fun y => (e L y.2).bind fun w => (jz_st 1 x.1 y.1 w.1 w.2).bind fun z => some (.inl (L, z)) := rfl
theorem ev_stz (a : jz_X Nat) (i e : jz_X Int32) (L : jz_L) (h : jz_H) : js_stz a i e L h = (a L h).bind fun x => (i L x.2).bind fun y => (e L y.2).bind fun w => (jz_st 2 x.1 y.1 (vp_nar .boolean w.1) w.2).bind fun z => some (.inl (L, z)) := rfl
theorem ev_upda (op : Int32 → Int32 → Int32) (a : jz_X Nat) (i e : jz_X Int32) (L : jz_L) (h : jz_H) : js_upda op a i e L h = (a L h).bind fun x => (i L x.2).bind fun y => (jz_ld 1 x.1 y.1 y.2).bind fun v => (e L y.2).bind fun w => (jz_st 1 x.1 y.1 (op v w.1) w.2).bind fun z => some (.inl (L, z)) := rfl
theorem ev_scall (chk : List Value → jz_H → Bool) (M : jz_M Unit) (g : jz_X (List Value)) (L : jz_L) (h : jz_H) : js_call chk M g L h = (je_call chk M g L h).bind fun x => some (.inl (L, x.2)) := rfl
theorem ev_isS (n : Nat) (as : List Value) (h : jz_H) : jz_isS n as h = (as.length == n) := rfl
theorem ok_same (S : List jz_Sh) (f g : Nat → Nat → Int32) : jz_ok 0 0 (S, f) (S, g) = true := by simp [jz_ok]
/-! steps -/
theorem seq_some {a b : jz_S} {L : jz_L} {h : jz_H} (L1 : jz_L) (h1 : jz_H) {o : jz_O} (ha : a L h = some (.inl (L1, h1))) (hb : b L1 h1 = some o) : js_seq a b L h = some o := by
  rw [ev_seq, ha, Option.bind_some]; exact hb
theorem seq_ret {a b : jz_S} {L : jz_L} {h : jz_H} {o : Option Value × jz_H} (ha : a L h = some (.inr o)) : js_seq a b L h = some (.inr o) := by
  rw [ev_seq, ha, Option.bind_some]
theorem run_I {nL : Nat} {B : jz_S} {as : List Value} {L : jz_L} {h h' : jz_H} {r : Int32} (hL : jz_ent nL as = L) (ha : jz_all1 as = true ∧ as.length ≤ nL) (hB : B L h = some (.inr (some (.int r), h'))) : jz_runI nL B as h = some (r, h') := by
  unfold jz_runI
  rw [if_pos ha, hL, hB]; rfl
theorem run_Z {nL : Nat} {B : jz_S} {as : List Value} {L : jz_L} {h h' : jz_H} {b : Bool} (hL : jz_ent nL as = L) (ha : jz_all1 as = true ∧ as.length ≤ nL) (hB : B L h = some (.inr (some (.int (jo_b b)), h'))) : jz_runZ nL B as h = some (jo_b b, h') := by
  unfold jz_runZ
  rw [run_I hL ha hB, Option.bind_some, if_pos]
  cases b
  · exact Or.inl rfl
  · exact Or.inr rfl
theorem run_V {nL : Nat} {B : jz_S} {as : List Value} {L : jz_L} {h h' : jz_H} (hL : jz_ent nL as = L) (ha : jz_all1 as = true ∧ as.length ≤ nL) (hB : B L h = some (.inr (none, h'))) : jz_runV nL B as h = some ((), h') := by
  unfold jz_runV
  rw [if_pos ha, hL, hB]; rfl
/-- a loop that runs n times, its state behind i turns is St i -/
theorem for_some {c : jz_X Bool} {s : jz_S} {L0 : jz_L} {h0 : jz_H} (St : Nat → jz_L × jz_H) (n : Nat) {fuel : Nat} (h00 : (L0, h0) = St 0) (hf : n < fuel) (hc : ∀ i, i < n → c (St i).1 (St i).2 = some (true, (St i).2)) (hb : ∀ i, i < n → s (St i).1 (St i).2 = some (.inl (St (i + 1)))) (he : c (St n).1 (St n).2 = some (false, (St n).2)) : js_while c s fuel L0 h0 = some (.inl (St n)) := by
  have key : ∀ k i fuel, i + k = n → k < fuel → js_while c s fuel (St i).1 (St i).2 = some (.inl (St n)) := by
    intro k
    induction k with
    | zero =>
      intro i fuel hi hfu
      cases fuel with
      | zero => omega
      | succ fuel =>
        have : i = n := by omega
        subst this
        simp only [js_while, he, Option.bind_some, Bool.false_eq_true, if_false]
    | succ k ih =>
      intro i fuel hi hfu
      cases fuel with
      | zero => omega
      | succ fuel =>
        simp only [js_while, hc i (by omega), Option.bind_some, if_true, hb i (by omega)]
        exact ih (i + 1) fuel (by omega) (by omega)
  have h1 := key n 0 fuel (by omega) hf
  rw [← h00] at h1
  exact h1
/-- a loop that returns in turn n -/
theorem for_ret {c : jz_X Bool} {s : jz_S} {L0 : jz_L} {h0 : jz_H} (St : Nat → jz_L × jz_H) (n : Nat) {fuel : Nat} {o : Option Value × jz_H} (h00 : (L0, h0) = St 0) (hf : n < fuel) (hc : ∀ i, i ≤ n → c (St i).1 (St i).2 = some (true, (St i).2)) (hb : ∀ i, i < n → s (St i).1 (St i).2 = some (.inl (St (i + 1)))) (he : s (St n).1 (St n).2 = some (.inr o)) : js_while c s fuel L0 h0 = some (.inr o) := by
  have key : ∀ k i fuel, i + k = n → k < fuel → js_while c s fuel (St i).1 (St i).2 = some (.inr o) := by
    intro k
    induction k with
    | zero =>
      intro i fuel hi hfu
      cases fuel with
      | zero => omega
      | succ fuel =>
        have : i = n := by omega
        subst this
        simp only [js_while, hc i (Nat.le_refl _), Option.bind_some, if_true, he]
    | succ k ih =>
      intro i fuel hi hfu
      cases fuel with
      | zero => omega
      | succ fuel =>
        simp only [js_while, hc i (by omega), Option.bind_some, if_true, hb i (by omega)]
        exact ih (i + 1) fuel (by omega) (by omega)
  have h1 := key n 0 fuel (by omega) hf
  rw [← h00] at h1
  exact h1
/-! numbers -/
theorem nn_toInt {n : Nat} (h : n < 2147483648) : (nI n).toInt = n := by
  unfold nI
  rw [Int32.toInt_ofNat']
  have hs : Int32.size = 4294967296 := rfl
  rw [hs]
  exact Int.bmod_eq_of_le (by omega) (by omega)
theorem nn_clamp {n : Nat} (h : n < 2147483648) : (nI n).toNatClampNeg = n := by
  show (nI n).toInt.toNat = n
  rw [nn_toInt h]; rfl
theorem nn_inj {m n : Nat} (hm : m < 2147483648) (hn : n < 2147483648) : nI m = nI n ↔ m = n := by
  constructor
  · intro h
    have := congrArg Int32.toInt h
    rw [nn_toInt hm, nn_toInt hn] at this
    omega
  · intro h; rw [h]
theorem nn_lt {m n : Nat} (hm : m < 2147483648) (hn : n < 2147483648) : nI m < nI n ↔ m < n := by
  rw [Int32.lt_iff_toInt_lt, nn_toInt hm, nn_toInt hn]; omega
theorem nn_le {m n : Nat} (hm : m < 2147483648) (hn : n < 2147483648) : nI m ≤ nI n ↔ m ≤ n := by
  rw [Int32.le_iff_toInt_le, nn_toInt hm, nn_toInt hn]; omega
theorem nn_add (m n : Nat) : nI m + nI n = nI (m + n) := by
  unfold nI; rw [Int32.ofNat_add]
theorem nn_succ (n : Nat) : nI n + 1 = nI (n + 1) := nn_add n 1
theorem nn_in {i n : Nat} (hi : i < n) (hn : n < 2147483648) : jz_in (nI i) n = true := by
  unfold jz_in
  rw [nn_clamp (by omega)]
  simp only [hi, decide_true, Bool.and_true, decide_eq_true_eq]
  rw [Int32.le_iff_toInt_le, nn_toInt (by omega)]
  show (0 : Int) ≤ i
  omega
/-- an int within bounds is a small number -/
theorem nn_of {c : Int32} {n : Nat} (h0 : 0 ≤ c) (hn : c < nI n) (hb : n < 2147483648) : ∃ k, k < n ∧ c = nI k := by
  rw [Int32.le_iff_toInt_le] at h0
  rw [Int32.lt_iff_toInt_lt, nn_toInt hb] at hn
  have hz : (0 : Int32).toInt = 0 := by decide
  rw [hz] at h0
  refine ⟨c.toInt.toNat, by omega, ?_⟩
  apply Int32.toInt_inj.mp
  rw [nn_toInt (by omega)]
  omega
/-! the heap's ints -/
theorem up_at (f : Nat → Nat → Int32) (a k : Nat) (v : Int32) (x y : Nat) : jz_up f a k v x y = if x = a ∧ y = k then v else f x y := by
  unfold jz_up
  by_cases hx : x = a
  · subst hx
    by_cases hy : y = k
    · subst hy; simp [upd]
    · simp [upd, hy]
  · simp [hx]
theorem up_ne {f : Nat → Nat → Int32} {a k : Nat} {v : Int32} {x : Nat} (h : x ≠ a) : jz_up f a k v x = f x := by
  unfold jz_up; rw [if_neg h]
