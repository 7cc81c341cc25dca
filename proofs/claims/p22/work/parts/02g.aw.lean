section AWR
variable {own nm : String} {cc : ByteArray} {nL : Nat} {ret : Option FieldType} {hh : List (Nat × Nat × Nat × Nat)} {X : aX} {d : Nat} {T : Type} {post : T → aO → aW → Prop} {kc ks : Nat} {o : Option T} {pc q : Nat} {lv lv' : List (Nat × Value)} {st : List Value} {ws : aW}
/-- a call of a method that may throw, by one that doesn't catch -/
theorem aw_callX {U V : Type} {val2 : V → (Nat → Nat) → Option Value} {wf2 : V → (Nat → Nat) → aW} {w02 : aW} {index d' kc' ks' kc1 ks1 : Nat} {y : MethodName} {w0 : Cond} {As st0 : List Value} {wc wr : aW} {val : U → (Nat → Nat) → Option Value} {wf : U → (Nat → Nat) → aW} {u : Option (U ⊕ String)} {Kf : U → Option (V ⊕ String)} {st1 : U → (Nat → Nat) → List Value} {ws1 : U → (Nat → Nat) → aW} (isC isR isX : List Nat)
    (hr : ∀ P : aO → aW → Prop, RunOf own cc nL d pc index y w0 d' kc' ks' As st st0 ws wc P) (hok : ∀ x, u = some x → OkM y w0 d' kc' ks' As wc (PX val wf wc x)) (hq : pc + 3 = q) (hhh : hh = []) (hnC : va_nd isC = true) (hC : isC.map (fun i => ws[i]?) = wc.map some) (hR : isR.map (fun i => ws[i]?) = wr.map some) (hn : va_nd isR = true) (hdis : ∀ i ∈ isR, i ∉ isC) (hnX : va_nd isX = true) (hX : isX.map (fun i => (wr ++ wc)[i]?) = w02.map some) (h1 : kc1 + kc' ≤ kc) (h2 : ks1 + ks' ≤ ks)
    (hst1 : ∀ x g, (val x g).toList ++ st = st1 x g) (hws1 : ∀ x g, wr ++ wf x g = ws1 x g) (K : ∀ x g, AW own nm cc nL ret hh X d (PX val2 wf2 w02) kc1 ks1 (Kf x) q lv (st1 x g) (ws1 x g)) : AW own nm cc nL ret hh X d (PX val2 wf2 w02) kc ks (xb u Kf) pc lv st0 ws := by
  subst hq
  intro z hz p l e R s m args below meth c D TY A H locs cells slots mc ms ls C hK hZ hd1 hd2 hc1 hc2 hc3 hc4 hP hD hS hl0
  cases hu : u with
  | none => rw [hu] at hz; cases hz
  | some x =>
    rw [hu] at hz
    have hF := (pc_of (As := As) (p := p) (l := l) (m := m) (args := args) (meth := meth) (c := c) hK hZ hP hD hS C.2.2.2.2.2.2.2.2.2.2.2 hnC hC).2.2
    refine aw_run hC hR hn hdis hP hD hS hF (hr _ p l e R s m args below meth c D TY A H locs cells slots ls isC C.1 C.2.1 C.2.2.1 C.2.2.2.2.1 C.2.2.2.2.2.1 C.2.2.2.2.2.2.2.2.2.1 C.2.2.2.2.2.2.2.2.2.2.2 hK hZ hd1 hd2 (by omega) (by omega) hP hD hS hl0.1 hnC hC (hok x hu)) (fun v w H1 locs1 hp hP1 hD1 hS1 => ?_) (fun E w ce q9 H1 locs1 hp hP1 hD1 hS1 hce hcv hcl => ?_)
    · cases x with
      | inr E => obtain ⟨e1, -⟩ := hp; cases e1
      | inl x =>
        obtain ⟨g, e1, e2⟩ := hp
        cases e1
        subst e2
        rw [hws1] at hP1 hD1
        rw [hst1]
        exact K x g z hz p l e R s m args below meth c D TY A H1 locs1 (cells + kc') (slots + ks') mc ms ls C hK hZ hd1 hd2 hc1 hc2 (by omega) (by omega) hP1 hD1 hS1 hl0
    · cases x with
      | inl x => obtain ⟨g, e1, -⟩ := hp; cases e1
      | inr E' =>
        obtain ⟨e1, e2⟩ := hp
        cases e1
        subst e2
        have hz' : z = .inr E := (Option.some.inj hz).symm
        subst hz'
        have hX' := re_places (TY := TY) hX
        refine vx_out (fun x hx => ?_) C.2.2.2.2.2.2.1 hce hcv hcl (fun t ht hvm => ⟨⟨w02, ⟨rfl, rfl⟩, by rw [ht]; exact re_sub hP1 hX', hD1.sub isX hnX hX'⟩, hS1.F ht⟩) hS1.2.2 (by omega) (by omega)
        rw [C.2.2.2.2.2.2.2.2.1, hhh] at hx
        cases hx
/-- 'throw new E(text)' -/
theorem aw_throw {V : Type} {val2 : V → (Nat → Nat) → Option Value} {wf2 : V → (Nat → Nat) → aW} {w02 : aW} {E text : String} {ik is ic : Nat} (isX : List Nat) (d0 : decode cc pc = .ok (.new ik, 3)) (d3 : decode cc (pc + 3) = .ok (.dup, 1)) (d4 : decode cc (pc + 4) = .ok (.ldc is, 2)) (d6 : decode cc (pc + 6) = .ok (.invokespecial ic, 3)) (d9 : decode cc (pc + 9) = .ok (.athrow, 1))
    (hE : Bundle.fit E = true) (hhh : hh = []) (hk : Cond.classLink own ik E ∈ TB) (hini : Cond.initialized E ∈ TB) (hs : (own, is, text) ∈ STRS) (hat : ∀ w ∈ vx_atS own ic E ["java/lang/RuntimeException", "java/lang/Exception"], w ∈ TB ∨ w ∈ NGW) (hd : 8 ≤ d) (hst : (st.map fun v => v.category).sum ≤ 8) (hnX : va_nd isX = true) (hX : isX.map (fun i => ws[i]?) = w02.map some) (h1 : 1 ≤ kc) (h2 : 6 ≤ ks) :
    AW own nm cc nL ret hh X d (PX val2 wf2 w02) kc ks (some (.inr E)) pc lv st ws := by
  intro z hz p l e R s m args below meth c D TY A H locs cells slots mc ms ls C hK hZ hd1 hd2 hc1 hc2 hc3 hc4 hP hD hS hl0
  cases hz
  obtain ⟨sa, hsa⟩ := hZ.2.2.2.1 _ hs
  have hX' := re_places (TY := TY) hX
  have hP' := re_sub hP hX'
  have hw : ∀ w, w ∈ TB ∨ w ∈ NGW → w.before args s = true := fun w h => h.elim (C.2.2.2.2.2.1 w) (fun h => NGW_use h (hZ.2.2.2.2.2.1 w h))
  have hg : ∀ w, w ∈ TB ∨ w ∈ NGW → vx_ot w = true := fun w h => h.elim (fun h => by unfold vx_ot; rw [TB_good w h, Bool.or_true]) (fun h => by unfold vx_ot; rw [ngw_tabs (List.mem_filter.mp h).2, Bool.true_or])
  refine vx_throwS (names := ["java/lang/RuntimeException", "java/lang/Exception"]) C.1 C.2.1 C.2.2.2.2.2.2.2.2.2.1 C.2.2.2.2.1 hE (by decide) (C.2.2.2.2.2.1 _ hk) (C.2.2.2.2.2.1 _ hini) hsa (fun w h => hw w (hat w h)) (fun w h => ?_) hZ.1 hZ.2.1 hS (hl0.1.trans C.2.2.1.symm) d0 d3 d4 d6 d9 (fun x hx => ?_) (by show 2 + 3 < R.frames; omega) (by show _ + (13 * 3 + 43) ≤ R.locals; omega) (by omega) (by omega) C.2.2.2.2.2.2.1 (fun t hvm hsz hq => ⟨⟨w02, ⟨rfl, rfl⟩, hP'.kept (fun k q hk => hq q.1 ((hP' k q hk).lt)), hD.sub isX hnX hX'⟩, Nat.le_trans hS.1 hsz, fun q9 g1 g2 => (hq q9 (Nat.lt_of_lt_of_le g1 hS.1)).trans (hS.2.1 q9 g1 g2)⟩) hS.2.2 (by omega) (by omega)
  · rcases List.mem_cons.mp h with rfl | h
    · exact hg _ (Or.inl hk)
    · rcases List.mem_cons.mp h with rfl | h
      · exact hg _ (Or.inl hini)
      · exact hg w (hat w h)
  · rw [C.2.2.2.2.2.2.2.2.1, hhh] at hx
    cases hx
/-- the ends -/
theorem aw_ireturn {x : T} {v : Int32} {ty : FieldType} {w : aW} (is : List Nat) (dg : decode cc pc = .ok (.ireturn, 1)) (hr : ret = some ty) (hnv : narrow ty (.int v) = .int v) (hnd : va_nd is = true) (hw : is.map (fun i => ws[i]?) = w.map some) (hp : post x (.inl (some (.int v))) w) : AW own nm cc nL ret hh X d post kc ks (some x) pc lv [.int v] ws := by
  intro z hz p l e R s m args below meth c D TY A H locs cells slots mc ms ls C hK hZ hd1 hd2 hc1 hc2 hc3 hc4 hP hD hS hl0
  cases hz
  have hw' := re_places (TY := TY) hw
  refine W.widen (k := mc) (n := ms) (by omega) (by omega) (vx_ret ?_)
  exact W.zret C.1 C.2.1 (C.2.2.2.1.trans hr) hnv (fun t ht hW => ⟨⟨_, w, rfl, hp, by rw [ht]; exact re_sub hP hw', hD.sub is hnd hw'⟩, hS.F ht⟩) hS.2.2 dg C.2.2.2.2.2.2.1
theorem aw_lreturn {x : T} {v : Int64} {w : aW} (is : List Nat) (dg : decode cc pc = .ok (.lreturn, 1)) (hr : ret = some .long) (hnd : va_nd is = true) (hw : is.map (fun i => ws[i]?) = w.map some) (hp : post x (.inl (some (.long v))) w) : AW own nm cc nL ret hh X d post kc ks (some x) pc lv [.long v] ws := by
  intro z hz p l e R s m args below meth c D TY A H locs cells slots mc ms ls C hK hZ hd1 hd2 hc1 hc2 hc3 hc4 hP hD hS hl0
  cases hz
  have hw' := re_places (TY := TY) hw
  refine W.widen (k := mc) (n := ms) (by omega) (by omega) (vx_ret ?_)
  exact W.lret C.1 C.2.1 (C.2.2.2.1.trans hr) (fun t ht hW => ⟨⟨_, w, rfl, hp, by rw [ht]; exact re_sub hP hw', hD.sub is hnd hw'⟩, hS.F ht⟩) hS.2.2 dg C.2.2.2.2.2.2.1
theorem aw_areturn {x : T} {v : Nat} {rt : FieldType} {w : aW} (is : List Nat) (dg : decode cc pc = .ok (.areturn, 1)) (hr : ret = some rt) (hrt : (∃ n, rt = .object n) ∨ ∃ t, rt = .array t) (hnd : va_nd is = true) (hw : is.map (fun i => ws[i]?) = w.map some) (hp : post x (.inl (some (.ref v))) w) : AW own nm cc nL ret hh X d post kc ks (some x) pc lv [.ref v] ws := by
  intro z hz p l e R s m args below meth c D TY A H locs cells slots mc ms ls C hK hZ hd1 hd2 hc1 hc2 hc3 hc4 hP hD hS hl0
  cases hz
  have hw' := re_places (TY := TY) hw
  refine W.widen (k := mc) (n := ms) (by omega) (by omega) (vx_ret ?_)
  exact W.aret C.1 C.2.1 (C.2.2.2.1.trans hr) hrt (Or.inr ⟨v, rfl⟩) (fun t ht hW => ⟨⟨_, w, rfl, hp, by rw [ht]; exact re_sub hP hw', hD.sub is hnd hw'⟩, hS.F ht⟩) hS.2.2 dg C.2.2.2.2.2.2.1
theorem aw_return {x : T} {w : aW} (is : List Nat) (dg : decode cc pc = .ok (.return_, 1)) (hr : ret = none) (hnd : va_nd is = true) (hw : is.map (fun i => ws[i]?) = w.map some) (hp : post x (.inl none) w) : AW own nm cc nL ret hh X d post kc ks (some x) pc lv [] ws := by
  intro z hz p l e R s m args below meth c D TY A H locs cells slots mc ms ls C hK hZ hd1 hd2 hc1 hc2 hc3 hc4 hP hD hS hl0
  cases hz
  have hw' := re_places (TY := TY) hw
  refine W.widen (k := mc) (n := ms) (by omega) (by omega) (vx_ret ?_)
  exact W.vret C.1 C.2.1 (C.2.2.2.1.trans hr) (fun t ht hW => ⟨⟨_, w, rfl, hp, by rw [ht]; exact re_sub hP hw', hD.sub is hnd hw'⟩, hS.F ht⟩) hS.2.2 dg C.2.2.2.2.2.2.1
/-- a constructor's call of Object's -/
theorem aw_objInit {index a : Nat} (dg : decode cc pc = .ok (.invokespecial index, 3)) (hq : pc + 3 = q) (hl : Cond.methodLink own index objectInit ∈ TB) (hw : Cond.instanceMethod objectInit ∈ TB ∧ Cond.code objectInit ⟨#[0xb1]⟩ 1 none ∈ TB) (hd : 1 ≤ d) (hst : (st.map fun v => v.category).sum ≤ 8) (K : AW own nm cc nL ret hh X d post kc ks o q lv st ws) : AW own nm cc nL ret hh X d post kc ks o pc lv (.ref a :: st) ws := by
  subst hq
  intro z hz p l e R s m args below meth c D TY A H locs cells slots mc ms ls C hK hZ hd1 hd2 hc1 hc2 hc3 hc4 hP hD hS hl0
  refine W.objInit C.1 C.2.1 C.2.2.2.2.1 (C.2.2.2.2.2.1 _ hl) (C.2.2.2.2.2.1 _ hw.1) (C.2.2.2.2.2.1 _ hw.2) rfl (hl0.1.trans C.2.2.1.symm) rfl dg (by omega) (by show 2 * 0 + _ + 12 ≤ R.locals; omega) ?_
  exact K z hz p l e R s m args below meth c D TY A H locs cells slots mc ms ls C hK hZ hd1 hd2 hc1 hc2 hc3 hc4 hP hD hS hl0
theorem aw_ldc {index : Nat} {v : Int32} (dg : decode cc pc = .ok (.ldc index, 2)) (hq : pc + 2 = q) (hw : Cond.constant own index v ∈ TB) (K : AW own nm cc nL ret hh X d post kc ks o q lv (.int v :: st) ws) : AW own nm cc nL ret hh X d post kc ks o pc lv st ws := by
  subst hq
  intro z hz p l e R s m args below meth c D TY A H locs cells slots mc ms ls C hK hZ hd1 hd2 hc1 hc2 hc3 hc4 hP hD hS hl0
  exact lv_ldc C.1 C.2.1 C.2.2.2.2.1 (C.2.2.2.2.2.1 _ hw) dg (K z hz p l e R s m args below meth c D TY A H locs cells slots mc ms ls C hK hZ hd1 hd2 hc1 hc2 hc3 hc4 hP hD hS hl0)
theorem aw_ldcw {index : Nat} {v : Int32} (dg : decode cc pc = .ok (.ldc_w index, 3)) (hq : pc + 3 = q) (hw : Cond.constant own index v ∈ TB) (K : AW own nm cc nL ret hh X d post kc ks o q lv (.int v :: st) ws) : AW own nm cc nL ret hh X d post kc ks o pc lv st ws := by
  subst hq
  intro z hz p l e R s m args below meth c D TY A H locs cells slots mc ms ls C hK hZ hd1 hd2 hc1 hc2 hc3 hc4 hP hD hS hl0
  exact lv_ldcw C.1 C.2.1 C.2.2.2.2.1 (C.2.2.2.2.2.1 _ hw) dg (K z hz p l e R s m args below meth c D TY A H locs cells slots mc ms ls C hK hZ hd1 hd2 hc1 hc2 hc3 hc4 hP hD hS hl0)
theorem aw_ldc2 {index : Nat} {v : Int64} (dg : decode cc pc = .ok (.ldc2_w index, 3)) (hq : pc + 3 = q) (hw : Cond.constantLong own index v ∈ TB) (K : AW own nm cc nL ret hh X d post kc ks o q lv (.long v :: st) ws) : AW own nm cc nL ret hh X d post kc ks o pc lv st ws := by
  subst hq
  intro z hz p l e R s m args below meth c D TY A H locs cells slots mc ms ls C hK hZ hd1 hd2 hc1 hc2 hc3 hc4 hP hD hS hl0
  exact lv_ldc2 C.1 C.2.1 C.2.2.2.2.1 (C.2.2.2.2.2.1 _ hw) dg (K z hz p l e R s m args below meth c D TY A H locs cells slots mc ms ls C hK hZ hd1 hd2 hc1 hc2 hc3 hc4 hP hD hS hl0)
/-- switches, a case after the other -/
theorem aw_tsw {x v : Int32} {dflt lo hi off : Int} {offs : Array Int} {len tgt : Nat} {A1 B : Option T} [dec : Decidable (x = v)] (dg : decode cc pc = .ok (.tableswitch dflt lo hi offs, len)) (h1 : ¬ v.toInt < lo) (h2 : ¬ hi < v.toInt) (ho : offs[(v.toInt - lo).toNat]? = some off) (ht : (pc : Int) + off = (tgt : Int)) (kt : x = v → AW own nm cc nL ret hh X d post kc ks A1 tgt lv st ws) (kf : ¬ x = v → AW own nm cc nL ret hh X d post kc ks B pc lv (.int x :: st) ws) : AW own nm cc nL ret hh X d post kc ks (if x = v then A1 else B) pc lv (.int x :: st) ws := by
  by_cases h9 : x = v
  · intro z hz p l e R s m args below meth c D TY A H locs cells slots mc ms ls C hK hZ hd1 hd2 hc1 hc2 hc3 hc4 hP hD hS hl0
    rw [if_pos h9] at hz
    have k := kt h9
    subst h9
    exact lv_tableIn C.1 C.2.1 dg h1 h2 ho ht (k z hz p l e R s m args below meth c D TY A H locs cells slots mc ms ls C hK hZ hd1 hd2 hc1 hc2 hc3 hc4 hP hD hS hl0)
  · rw [if_neg h9]
    exact kf h9
theorem aw_tswD {x : Int32} {dflt lo hi : Int} {offs : Array Int} {len tgt : Nat} (dg : decode cc pc = .ok (.tableswitch dflt lo hi offs, len)) (h : x.toInt < lo ∨ hi < x.toInt) (ht : (pc : Int) + dflt = (tgt : Int)) (K : AW own nm cc nL ret hh X d post kc ks o tgt lv st ws) : AW own nm cc nL ret hh X d post kc ks o pc lv (.int x :: st) ws := by
  intro z hz p l e R s m args below meth c D TY A H locs cells slots mc ms ls C hK hZ hd1 hd2 hc1 hc2 hc3 hc4 hP hD hS hl0
  exact lv_tableOut C.1 C.2.1 dg h ht (K z hz p l e R s m args below meth c D TY A H locs cells slots mc ms ls C hK hZ hd1 hd2 hc1 hc2 hc3 hc4 hP hD hS hl0)
/-- the contract out of the walk -/
theorem ok_of {y : MethodName} {bytes : ByteArray} {args : List Value} {x : T} (hy : plainName y.cls = true) (hlen : (lg_sl args).length ≤ nL) (hox : o = some x) (K : AW y.cls y.name bytes nL ret [] (fun _ _ => True) d post kc ks o 0 (lv_args 0 args) [] ws) : OkM y (.code y bytes nL ret) d kc ks args ws (post x) := by
  intro l D TY sz hlt
  refine vx_ofW (cc := bytes) (maxL := nL) (ret := ret) hy rfl ?_
  intro p e s m args' below meth c s₁ B hml hex hv
  obtain ⟨rfl, hsz, hP, hK, hD0, hZ⟩ := hv
  subst hsz
  have hts := atoms_spec (ws := Cond.code y bytes nL ret :: TB) B.pre
  have hD := hD0.self (sz := s.heap.size)
  have hl := lv_entry args (n := nL) hlen
  rw [lg_entry_eq]
  have hnm : meth.name = y.name := (name_of_methodNamed B.named B.method).1
  have het : c.exceptionTable.toList = tableOf [] := by
    show c.exceptionTable.toList = []
    exact List.eq_nil_iff_forall_not_mem.mpr (fun a ha => hex a ha)
  exact K x hox p l e _ s m args.toArray below meth c D TY (va_A (re TY ws) s.heap.size) s.heap [] 0 0 kc ks _ ⟨B.exec, B.bytes, hml, B.returns, findClass_of_methodNamed B.named, fun w h => hts w (List.mem_cons_of_mem _ h), B.notSynchronized, hnm, het, hlt, trivial, fun q h => Or.inr h⟩ hK hZ (Nat.le_refl _) (Nat.le_refl _) (Nat.le_refl _) (Nat.le_refl _) (by omega) (by omega) hP hD va_S.rf hl
end AWR
