section AWR
variable {own nm : String} {cc : ByteArray} {nL : Nat} {ret : Option FieldType} {hh : List (Nat × Nat × Nat × Nat)} {X : aX} {d : Nat} {T : Type} {post : T → aO → aW → Prop} {kc ks : Nat} {o : Option T} {pc q : Nat} {lv lv' : List (Nat × Value)} {st : List Value} {ws : aW}
theorem aw_iastT {a n : Nat} {i x : Int32} {f : Nat → Int32} {ws' : aW} (h9 : ¬ (i < 0 ∨ n ≤ i.toNatClampNeg)) (dg : decode cc pc = .ok (.iastore, 1)) (hq : pc + 1 = q) (q0 : Nat) (ha : ws[q0]? = some (a, .inl (0, n, .inl f))) (hws : ws.set q0 (a, .inl (0, n, .inl (upd f i.toNatClampNeg x))) = ws') (K : AW own nm cc nL ret hh X d post kc ks o q lv st ws') : AW own nm cc nL ret hh X d post kc ks o pc lv (.int x :: .int i :: .ref a :: st) ws := by
  have h := aw_iast (i := i) (x := x) dg hq q0 ha hws K
  rwa [if_neg h9] at h
theorem aw_aaldT {a t n r : Nat} {i : Int32} {f : Nat → Option Nat} (h9 : ¬ (i < 0 ∨ n ≤ i.toNatClampNeg)) (dg : decode cc pc = .ok (.aaload, 1)) (hq : pc + 1 = q) (q0 : Nat) (ha : ws[q0]? = some (a, .inl (t, n, .inr (.inr (.inr (.inr f)))))) (ht : t < 6) (hr : (tyAt t).isReference = true) (hfr : f i.toNatClampNeg = some r) (K : AW own nm cc nL ret hh X d post kc ks o q lv (.ref r :: st) ws) : AW own nm cc nL ret hh X d post kc ks o pc lv (.int i :: .ref a :: st) ws := by
  have h := aw_aald (i := i) dg hq q0 ha ht hr (fun _ => hfr) K
  rwa [if_neg h9] at h
/-- a class of vwCl that own makes -/
def NW (own : String) (index ci N : Nat) (fs : List Value) : Prop := ∃ (Cn : String) (Tn : u_T) (ty0 : Nat → FieldType), vwCl[ci]? = some (Cn, Tn, N) ∧ (∀ w ∈ u_ws Cn Tn N, w ∈ TB) ∧ (∀ j, j < N → parseFieldDescriptor (Tn j).2.2.1 = some (ty0 j)) ∧ Cond.classLink own index Cn ∈ TB ∧ Cond.instantiable Cn N ∈ TB ∧ Cond.initialized Cn ∈ TB ∧ ∀ j, j < N → defaultValue (ty0 j) = vp_V fs j
theorem aw_new {index ci N kc' ks' : Nat} {fs : List Value} {ws' : Nat → aW} (dg : decode cc pc = .ok (.new index, 3)) (hq : pc + 3 = q) (hn : NW own index ci N fs) (h1 : kc' + 1 ≤ kc) (h2 : ks' + N ≤ ks) (hws : ∀ r, ws ++ [(r, .inr (ci, fs))] = ws' r) (K : ∀ r : Nat, AW own nm cc nL ret hh X d post kc' ks' o q lv (.ref r :: st) (ws' r)) : AW own nm cc nL ret hh X d post kc ks o pc lv st ws := by
  subst hq
  intro z hz p l e R s m args below meth c D TY A H locs cells slots mc ms ls C hK hZ hd1 hd2 hc1 hc2 hc3 hc4 hP hD hS hl0
  obtain ⟨Cn, Tn, ty0, g1, g2, g3, g4, g5, g6, g7⟩ := hn
  refine va_new C.1 C.2.1 C.2.2.2.2.2.1 g2 ty0 g3 C.2.2.2.2.1 (C.2.2.2.2.2.1 _ g4) (C.2.2.2.2.2.1 _ g5) (C.2.2.2.2.2.1 _ g6) hK hP hD hS C.2.2.2.2.2.2.2.2.2.2.2 g1 g7 (by omega) (by omega) dg (fun r H1 hP1 hD1 hS1 => ?_)
  have e : re TY ws ++ [(r, .inr (ci, fs))] = re TY (ws' r) := by rw [← hws, re_app]; rfl
  rw [e] at hP1 hD1
  exact K r z hz p l _ R s m args below meth c D TY A H1 locs (cells + 1) (slots + N) mc ms ls C hK hZ hd1 hd2 hc1 hc2 (by omega) (by omega) hP1 hD1 hS1 hl0
theorem aw_cls {D : va_G} {TY : Nat → ClassId} {s : State} {t : Nat} {cA : ClassId} (hK : va_K D vwCl (tysOf TY) s) (ht : t < 6) {ty : FieldType} (hty : tyAt t = ty) (h : va_RA s cA ty) : cA = TY t := by
  subst hty
  have h0 := (hK.2 t _ (aw_tys ht)).2
  match t, ht with
  | 0, _ => exact Option.some.inj (h.symm.trans h0)
  | 1, _ => obtain ⟨_, _, _, _, _, a⟩ := h; obtain ⟨_, _, _, _, _, b⟩ := h0; exact Option.some.inj (a.symm.trans b)
  | 2, _ => obtain ⟨_, _, _, _, _, a⟩ := h; obtain ⟨_, _, _, _, _, b⟩ := h0; exact Option.some.inj (a.symm.trans b)
  | 3, _ => obtain ⟨_, _, _, _, _, a⟩ := h; obtain ⟨_, _, _, _, _, b⟩ := h0; exact Option.some.inj (a.symm.trans b)
  | 4, _ => exact Option.some.inj (h.symm.trans h0)
  | 5, _ => exact Option.some.inj (h.symm.trans h0)
theorem aw_last {D : va_G} {cl : List vw_C} {tys : List (ClassId × FieldType)} {cA : ClassId} {ty : FieldType} {s : State} (h : va_K D cl (tys ++ [(cA, ty)]) s) : va_RA s cA ty := (h.2 tys.length (cA, ty) (by simp)).2
theorem aw_newarr {t N kc' ks' : Nat} {n : Int32} {atype : ArrayType} {ws' : Nat → aW} (dg : decode cc pc = .ok (.newarray atype, 2)) (hq : pc + 2 = q) (ht : t < 6) (hty : newarray.typeOf atype = tyAt t) (hw : Cond.arrayClass (newarray.typeOf atype) ∈ TB) (ha : ∀ cA : ClassId, vp_cell cA (N, .inl (fun _ => 0)) = arrV cA N (fun _ => defaultValue (tyAt t))) (hn : ¬ n < 0) (hN : n.toNatClampNeg = N) (hb : N * componentBytes (tyAt t) ≤ 536870912) (h1 : kc' + 1 ≤ kc) (h2 : ks' + N ≤ ks) (hws : ∀ r, ws ++ [(r, .inl (t, N, .inl (fun _ => 0)))] = ws' r) (K : ∀ r : Nat, AW own nm cc nL ret hh X d post kc' ks' o q lv (.ref r :: st) (ws' r)) : AW own nm cc nL ret hh X d post kc ks o pc lv (.int n :: st) ws := by
  subst hq
  intro z hz p l e R s m args below meth c D TY A H locs cells slots mc ms ls C hK hZ hd1 hd2 hc1 hc2 hc3 hc4 hP hD hS hl0
  refine va_newa C.1 C.2.1 (C.2.2.2.2.2.1 _ hw) hty hK hP hD hS C.2.2.2.2.2.2.2.2.2.2.2 ha hn hN hb (by omega) (by omega) dg (fun r cA H1 hK1 hP1 hD1 hS1 => ?_)
  have hcA := aw_cls hK ht rfl (aw_last hK1)
  subst hcA
  have e : re TY ws ++ [(r, .inl (TY t, N, .inl (fun _ => 0)))] = re TY (ws' r) := by rw [← hws, re_app]; rfl
  rw [e] at hP1 hD1
  exact K r z hz p l _ R s m args below meth c D TY A H1 locs (cells + 1) (slots + N) mc ms ls C hK hZ hd1 hd2 hc1 hc2 (by omega) (by omega) hP1 hD1 hS1 hl0
theorem aw_anew {t N kc' ks' index : Nat} {n : Int32} {Cn : String} {ws' : Nat → aW} (dg : decode cc pc = .ok (.anewarray index, 3)) (hq : pc + 3 = q) (ht : t < 6) (hty : tyAt t = .object Cn) (hw1 : Cond.classLink own index Cn ∈ TB) (hw2 : Cn ∈ AOS) (hn : ¬ n < 0) (hN : n.toNatClampNeg = N) (hb : N * 4 ≤ 536870912) (h1 : kc' + 1 ≤ kc) (h2 : ks' + N ≤ ks) (hws : ∀ r, ws ++ [(r, .inl (t, N, .inr (.inr (.inr (.inr (fun _ => none))))))] = ws' r) (K : ∀ r : Nat, AW own nm cc nL ret hh X d post kc' ks' o q lv (.ref r :: st) (ws' r)) : AW own nm cc nL ret hh X d post kc ks o pc lv (.int n :: st) ws := by
  subst hq
  intro z hz p l e R s m args below meth c D TY A H locs cells slots mc ms ls C hK hZ hd1 hd2 hc1 hc2 hc3 hc4 hP hD hS hl0
  refine va_newq C.1 C.2.1 C.2.2.2.2.1 (C.2.2.2.2.2.1 _ hw1) (hZ.2.2.2.2.1 Cn hw2) hK hP hD hS C.2.2.2.2.2.2.2.2.2.2.2 hn hN hb (by omega) (by omega) dg (fun r cA H1 hK1 hP1 hD1 hS1 => ?_)
  have hcA := aw_cls hK ht hty (aw_last hK1)
  subst hcA
  have e : re TY ws ++ [(r, .inl (TY t, N, .inr (.inr (.inr (.inr (fun _ => none))))))] = re TY (ws' r) := by rw [← hws, re_app]; rfl
  rw [e] at hP1 hD1
  exact K r z hz p l _ R s m args below meth c D TY A H1 locs (cells + 1) (slots + N) mc ms ls C hK hZ hd1 hd2 hc1 hc2 (by omega) (by omega) hP1 hD1 hS1 hl0
theorem aw_copy {index a0 a n0 n1 : Nat} {f g : Nat → Int32} {sp dp n : Int32} {ws' : aW} (dg : decode cc pc = .ok (.invokestatic index, 3)) (hq : pc + 3 = q) (hl : Cond.methodLink own index arraycopyName ∈ TB) (hw : Cond.native arraycopyName ∈ TB ∧ Cond.static arraycopyName ∈ TB ∧ Cond.initialized "java/lang/System" ∈ TB) (hd : 2 ≤ d) (hst : (st.map fun v => v.category).sum ≤ 8) (q0 q1 : Nat) (ha0 : ws[q0]? = some (a0, .inl (0, n0, .inl f))) (ha1 : ws[q1]? = some (a, .inl (0, n1, .inl g)))
    (h1 : ¬ sp < 0) (h2 : ¬ dp < 0) (h3 : ¬ n < 0) (h4 : sp.toNatClampNeg + n.toNatClampNeg ≤ n0) (h5 : dp.toNatClampNeg + n.toNatClampNeg ≤ n1) (hws : ws.set q1 (a, .inl (0, n1, .inl (va_cpy f g sp.toNatClampNeg dp.toNatClampNeg n.toNatClampNeg))) = ws') (K : AW own nm cc nL ret hh X d post kc ks o q lv st ws') : AW own nm cc nL ret hh X d post kc ks o pc lv (.int n :: .int dp :: .ref a :: .int sp :: .ref a0 :: st) ws := by
  subst hq
  intro z hz p l e R s m args below meth c D TY A H locs cells slots mc ms ls C hK hZ hd1 hd2 hc1 hc2 hc3 hc4 hP hD hS hl0
  have h8 : nativeFrameWords "java/lang/System" "arraycopy" 5 ≤ 60 := by decide
  have h9 : (st.map fun v => v.category).sum + (nativeFrameWords "java/lang/System" "arraycopy" 5 + 11) ≤ R.locals := by omega
  refine va_copyi C.1 C.2.1 (C.2.2.1.trans hl0.1.symm) C.2.2.2.2.1 (C.2.2.2.2.2.1 _ hl) (C.2.2.2.2.2.1 _ hw.1) (C.2.2.2.2.2.1 _ hw.2.1) (C.2.2.2.2.2.1 _ hw.2.2) hK hP hD hS q0 q1 0 0 (ty := .int) (re_get ha0) (re_get ha1) (aw_tys (by decide)) (aw_tys (by decide)) rfl h1 h2 h3 h4 h5 (fun _ _ => rfl) (by omega) h9 dg (fun H1 locs1 hP1 hD1 hS1 => ?_)
  have e : (re TY ws).set q1 (a, .inl (TY 0, n1, .inl (va_cpy f g sp.toNatClampNeg dp.toNatClampNeg n.toNatClampNeg))) = re TY ws' := by rw [← hws]; exact re_set (e := .inl (0, n1, .inl (va_cpy f g sp.toNatClampNeg dp.toNatClampNeg n.toNatClampNeg)))
  rw [e] at hP1 hD1
  exact K z hz p l _ R s m args below meth c D TY A H1 locs1 cells slots mc ms ls C hK hZ hd1 hd2 hc1 hc2 hc3 hc4 hP1 hD1 hS1 hl0
/-- what a called method is: its code, that it's initialised, how many arguments -/
def MI (y : MethodName) (bytes : ByteArray) (maxL n : Nat) (ret : Option FieldType) : Prop := Cond.code y bytes maxL ret ∈ TB ∧ Cond.initialized y.cls ∈ TB ∧ (y.cls ≠ "java/lang/invoke/MethodHandle" ∧ y.cls ≠ "java/lang/invoke/VarHandle") ∧ (parseMethodDescriptor y.desc).map (fun d => d.parameters.length) = some n ∧ maxL ≤ 45
theorem ws_stay {s : State} {args : Array Value} {w0 : Cond} (hts : ∀ w ∈ TB, w.before args s = true) (h0 : w0 ∈ TB) : ∀ w ∈ w0 :: TB, ∀ (a' : Array Value) (U : State), s.WarmedH U.vm → w.before a' U = true := fun w hw => (List.mem_cons.mp hw).elim (fun e => by rw [e]; exact TB_stay hts _ h0) (fun h => TB_stay hts w h)
/-- the room of a contract at d frames -/
abbrev rmOf (d kc ks : Nat) : Room := { frames := d, cells := kc, slots := ks, locals := 64 * d }
theorem cb_of {R : Room} {s : State} {args : Array Value} {own : String} {index : Nat} {y : MethodName} {bytes : ByteArray} {maxL n d d' kc' ks' : Nat} {ret : Option FieldType} (hts : ∀ w ∈ TB, w.before args s = true) (hm : MI y bytes maxL n ret) (hl : Cond.methodLink own index y ∈ TB) (hd : d' + 1 ≤ d) (hd1 : d ≤ R.frames) (hd2 : 64 * d ≤ R.locals) :
    CallB R s args own index y bytes maxL ret (Cond.code y bytes maxL ret :: TB) (rmOf d' kc' ks') kc' ks' n := by
  obtain ⟨h1, h2, h3, h4, h5⟩ := hm
  refine ⟨rfl, rfl, by show d' + 1 ≤ R.frames; omega, by show 8 + (maxL + 11) + 64 * d' ≤ R.locals; omega, ws_stay hts h1, List.mem_cons_self, hts _ h1, hts _ h2, h3, fun sig h => ?_, hts _ hl⟩
  rw [h] at h4
  exact (Option.some.inj h4).symm
end AWR
