section AWR
variable {own nm : String} {cc : ByteArray} {nL : Nat} {ret : Option FieldType} {hh : List (Nat × Nat × Nat × Nat)} {X : aX} {d : Nat} {T : Type} {post : T → aO → aW → Prop} {kc ks : Nat} {o : Option T} {pc q : Nat} {lv lv' : List (Nat × Value)} {st : List Value} {ws : aW}
theorem aw_i2b {x : Int32} (dg : decode cc pc = .ok (.i2b, 1)) (hq : pc + 1 = q) (K : AW own nm cc nL ret hh X d post kc ks o q lv (.int x.toInt8.toInt32 :: st) ws) : AW own nm cc nL ret hh X d post kc ks o pc lv (.int x :: st) ws := by
  subst hq
  intro z hz p l e R s m args below meth c D TY A H locs cells slots mc ms ls C hK hZ hd1 hd2 hc1 hc2 hc3 hc4 hP hD hS hl0
  exact lv_i2b C.1 C.2.1 dg rfl (K z hz p l e R s m args below meth c D TY A H locs cells slots mc ms ls C hK hZ hd1 hd2 hc1 hc2 hc3 hc4 hP hD hS hl0)
theorem aw_bast {a n : Nat} {i x : Int32} {f : Nat → Int32} {ws' : aW} [dec : Decidable (i < 0 ∨ n ≤ i.toNatClampNeg)] (dg : decode cc pc = .ok (.bastore, 1)) (hq : pc + 1 = q) (q0 : Nat) (ha : ws[q0]? = some (a, .inl (5, n, .inl f))) (hws : ws.set q0 (a, .inl (5, n, .inl (upd f i.toNatClampNeg (vp_nar .byte x)))) = ws') (K : AW own nm cc nL ret hh X d post kc ks o q lv st ws') : AW own nm cc nL ret hh X d post kc ks (if i < 0 ∨ n ≤ i.toNatClampNeg then none else o) pc lv (.int x :: .int i :: .ref a :: st) ws := by
  subst hq
  intro z hz p l e R s m args below meth c D TY A H locs cells slots mc ms ls C hK hZ hd1 hd2 hc1 hc2 hc3 hc4 hP hD hS hl0
  by_cases h9 : i < 0 ∨ n ≤ i.toNatClampNeg
  · rw [if_pos h9] at hz; cases hz
  · rw [if_neg h9] at hz
    refine va_bast C.1 C.2.1 hK hP hD hS q0 5 (re_get ha) (aw_tys (by decide)) h9 dg (fun H1 locs1 hP1 hD1 hS1 => ?_)
    have e : (re TY ws).set q0 (a, .inl (TY 5, n, .inl (upd f i.toNatClampNeg (vp_nar .byte x)))) = re TY ws' := by rw [← hws]; exact re_set (e := .inl (5, n, .inl (upd f i.toNatClampNeg (vp_nar .byte x))))
    rw [e] at hP1 hD1
    exact K z hz p l _ R s m args below meth c D TY A H1 locs1 cells slots mc ms ls C hK hZ hd1 hd2 hc1 hc2 hc3 hc4 hP1 hD1 hS1 hl0
/-- new byte[n], of at most B places -/
theorem aw_newB {B kc' ks' : Nat} {n : Int32} {ws' : Nat → aW} [dec : Decidable (n < 0 ∨ B < n.toNatClampNeg)] (dg : decode cc pc = .ok (.newarray .byte, 2)) (hq : pc + 2 = q) (hw : Cond.arrayClass .byte ∈ TB) (hB : B ≤ 1000) (h1 : kc' + 1 ≤ kc) (h2 : ks' + B ≤ ks) (hws : ∀ r, ws ++ [(r, .inl (5, n.toNatClampNeg, .inl (fun _ => 0)))] = ws' r) (K : ∀ r : Nat, AW own nm cc nL ret hh X d post kc' ks' o q lv (.ref r :: st) (ws' r)) : AW own nm cc nL ret hh X d post kc ks (if n < 0 ∨ B < n.toNatClampNeg then none else o) pc lv (.int n :: st) ws := by
  by_cases h9 : n < 0 ∨ B < n.toNatClampNeg
  · rw [if_pos h9]; exact aw_none
  · rw [if_neg h9]
    have h8 : n.toNatClampNeg ≤ B := Nat.not_lt.mp (fun h => h9 (Or.inr h))
    exact aw_newarr (t := 5) (N := n.toNatClampNeg) (kc' := kc') (ks' := ks') dg hq (by decide) rfl hw (fun _ => rfl) (fun h => h9 (Or.inl h)) rfl (by show n.toNatClampNeg * 1 ≤ _; omega) h1 (by omega) hws K
/-- System.arraycopy of bytes -/
theorem aw_copyB {index a0 a n0 n1 : Nat} {f g : Nat → Int32} {sp dp n : Int32} {ws' : aW} [dec : Decidable (sp < 0 ∨ dp < 0 ∨ n < 0 ∨ n0 < sp.toNatClampNeg + n.toNatClampNeg ∨ n1 < dp.toNatClampNeg + n.toNatClampNeg ∨ ¬ ∀ i, i < n.toNatClampNeg → fits .byte (.int (f (sp.toNatClampNeg + i))) = true)] (dg : decode cc pc = .ok (.invokestatic index, 3)) (hq : pc + 3 = q) (hl : Cond.methodLink own index arraycopyName ∈ TB) (hw : Cond.native arraycopyName ∈ TB ∧ Cond.static arraycopyName ∈ TB ∧ Cond.initialized "java/lang/System" ∈ TB) (hd : 2 ≤ d) (hst : (st.map fun v => v.category).sum ≤ 8) (q0 q1 : Nat) (ha0 : ws[q0]? = some (a0, .inl (5, n0, .inl f))) (ha1 : ws[q1]? = some (a, .inl (5, n1, .inl g)))
    (hws : ws.set q1 (a, .inl (5, n1, .inl (va_cpy f g sp.toNatClampNeg dp.toNatClampNeg n.toNatClampNeg))) = ws') (K : AW own nm cc nL ret hh X d post kc ks o q lv st ws') : AW own nm cc nL ret hh X d post kc ks (if sp < 0 ∨ dp < 0 ∨ n < 0 ∨ n0 < sp.toNatClampNeg + n.toNatClampNeg ∨ n1 < dp.toNatClampNeg + n.toNatClampNeg ∨ ¬ ∀ i, i < n.toNatClampNeg → fits .byte (.int (f (sp.toNatClampNeg + i))) = true then none else o) pc lv (.int n :: .int dp :: .ref a :: .int sp :: .ref a0 :: st) ws := by
  subst hq
  intro z hz p l e R s m args below meth c D TY A H locs cells slots mc ms ls C hK hZ hd1 hd2 hc1 hc2 hc3 hc4 hP hD hS hl0
  by_cases h9 : sp < 0 ∨ dp < 0 ∨ n < 0 ∨ n0 < sp.toNatClampNeg + n.toNatClampNeg ∨ n1 < dp.toNatClampNeg + n.toNatClampNeg ∨ ¬ ∀ i, i < n.toNatClampNeg → fits .byte (.int (f (sp.toNatClampNeg + i))) = true
  · rw [if_pos h9] at hz; cases hz
  · rw [if_neg h9] at hz
    simp only [not_or] at h9
    obtain ⟨g1, g2, g3, g4, g5, g6⟩ := h9
    have h8 : nativeFrameWords "java/lang/System" "arraycopy" 5 ≤ 60 := by decide
    have h7 : (st.map fun v => v.category).sum + (nativeFrameWords "java/lang/System" "arraycopy" 5 + 11) ≤ R.locals := by omega
    refine va_copyi C.1 C.2.1 (C.2.2.1.trans hl0.1.symm) C.2.2.2.2.1 (C.2.2.2.2.2.1 _ hl) (C.2.2.2.2.2.1 _ hw.1) (C.2.2.2.2.2.1 _ hw.2.1) (C.2.2.2.2.2.1 _ hw.2.2) hK hP hD hS q0 q1 5 5 (ty := .byte) (re_get ha0) (re_get ha1) (aw_tys (by decide)) (aw_tys (by decide)) rfl g1 g2 g3 (Nat.not_lt.mp g4) (Nat.not_lt.mp g5) (Decidable.not_not.mp g6) (by omega) h7 dg (fun H1 locs1 hP1 hD1 hS1 => ?_)
    have e : (re TY ws).set q1 (a, .inl (TY 5, n1, .inl (va_cpy f g sp.toNatClampNeg dp.toNatClampNeg n.toNatClampNeg))) = re TY ws' := by rw [← hws]; exact re_set (e := .inl (5, n1, .inl (va_cpy f g sp.toNatClampNeg dp.toNatClampNeg n.toNatClampNeg)))
    rw [e] at hP1 hD1
    exact K z hz p l _ R s m args below meth c D TY A H1 locs1 cells slots mc ms ls C hK hZ hd1 hd2 hc1 hc2 hc3 hc4 hP1 hD1 hS1 hl0
/-- a byte array's clone, cast back -/
theorem aw_cloneB {index i2 a n B kc' ks' : Nat} {f : Nat → Int32} {ws' : Nat → aW} [dec : Decidable (B < n ∨ ¬ ∀ i, i < n → fits .byte (.int (f i)) = true)] (dg : decode cc pc = .ok (.invokevirtual index, 3)) (dg2 : decode cc (pc + 3) = .ok (.checkcast i2, 3)) (hq : pc + 6 = q)
    (hw : Cond.methodLink own index ⟨"[B", "clone", "()Ljava/lang/Object;"⟩ ∈ TB ∧ Cond.sameMethod "[B" "java/lang/Object" "clone" "()Ljava/lang/Object;" ∈ TB ∧ Cond.native ⟨"java/lang/Object", "clone", "()Ljava/lang/Object;"⟩ ∈ TB ∧ Cond.instanceMethod ⟨"java/lang/Object", "clone", "()Ljava/lang/Object;"⟩ ∈ TB ∧ Cond.selects "[B" ⟨"[B", "clone", "()Ljava/lang/Object;"⟩ ⟨"java/lang/Object", "clone", "()Ljava/lang/Object;"⟩ ∈ TB ∧ Cond.castable "[B" "java/lang/Cloneable" ∈ NGW ∧ Cond.classLink own i2 "[B" ∈ TB) (hd : 2 ≤ d) (hst : (st.map fun v => v.category).sum ≤ 8)
    (q0 : Nat) (ha : ws[q0]? = some (a, .inl (5, n, .inl f))) (h1 : kc' + 1 ≤ kc) (h2 : ks' + B ≤ ks) (hws : ∀ r, ws ++ [(r, .inl (5, n, .inl f))] = ws' r) (K : ∀ r : Nat, AW own nm cc nL ret hh X d post kc' ks' o q lv (.ref r :: st) (ws' r)) : AW own nm cc nL ret hh X d post kc ks (if B < n ∨ ¬ ∀ i, i < n → fits .byte (.int (f i)) = true then none else o) pc lv (.ref a :: st) ws := by
  subst hq
  intro z hz p l e R s m args below meth c D TY A H locs cells slots mc ms ls C hK hZ hd1 hd2 hc1 hc2 hc3 hc4 hP hD hS hl0
  by_cases h9 : B < n ∨ ¬ ∀ i, i < n → fits .byte (.int (f i)) = true
  · rw [if_pos h9] at hz; cases hz
  · rw [if_neg h9] at hz
    simp only [not_or] at h9
    obtain ⟨g1, g2⟩ := h9
    obtain ⟨w1, w2, w3, w4, w5, w6, w7⟩ := hw
    have hnm : s.vm.findClass "[B" = some (TY 5) := (hK.2 5 _ (aw_tys (by decide))).2
    refine va_clone (ad := "[B") C.1 C.2.1 (C.2.2.1.trans hl0.1.symm) C.2.2.2.2.1 (C.2.2.2.2.2.1 _ w1) (C.2.2.2.2.2.1 _ w2) (C.2.2.2.2.2.1 _ w3) (C.2.2.2.2.2.1 _ w4) (C.2.2.2.2.2.1 _ w5) (hZ.2.2.2.2.2.1 _ w6) hK hP hD hS C.2.2.2.2.2.2.2.2.2.2.2 q0 5 (ty := .byte) (re_get ha) (aw_tys (by decide)) hnm (fun i v hv => ?_) (by omega) (by omega) (by omega) (by show slots + n ≤ _; omega) dg (fun r H1 hK1 hP1 hD1 hS1 => ?_)
    · have hlt : i < n := by
        have := (Array.getElem?_eq_some_iff.mp hv).1
        rwa [show (vp_cell (TY 5) (n, .inl f)).slots.size = n from arr_size (TY 5) n f] at this
      rw [show (vp_cell (TY 5) (n, .inl f)).slots[i]? = some (.int (f i)) from arr_read (TY 5) f hlt] at hv
      cases hv
      exact Decidable.not_not.mp g2 i hlt
    · have e : re TY ws ++ [(r, .inl (TY 5, n, .inl f))] = re TY (ws' r) := by rw [← hws, re_app]; rfl
      rw [e] at hP1 hD1
      have hlast : (ws' r)[ws.length]? = some (r, .inl (5, n, .inl f)) := by rw [← hws]; simp
      refine va_castA (nm := "[B") C.1 C.2.1 C.2.2.2.2.1 (C.2.2.2.2.2.1 _ w7) hP1 ws.length (re_get hlast) hnm dg2 ?_
      exact K r z hz p l _ R s m args below meth c D TY A H1 locs (cells + 1) (slots + n) mc ms ls C hK hZ hd1 hd2 hc1 hc2 (by omega) (by omega) hP1 hD1 hS1 hl0
/-- Integer's two tables of digits: T[-x], T[x] -/
theorem aw_tab1 {S : String} {tb : Nat → Int32} {index : Nat} {k : Fin 4} {x : Int32} [dec : Decidable (-x < 0 ∨ 100 ≤ (-x).toNatClampNeg)] (d0 : decode cc pc = .ok (.getstatic index, 3)) (d3 : decode cc (pc + 3) = .ok (.iload_n k, 1)) (d4 : decode cc (pc + 4) = .ok (.ineg, 1)) (d5 : decode cc (pc + 5) = .ok (.baload, 1)) (hq : pc + 6 = q) (hl : Cond.fieldLink own index "java/lang/Integer" S "[B" ∈ TB) (hS0 : (S, tb) ∈ TABS) (j : Nat) (hj : lv[j]? = some ((k : Nat), .int x)) (K : AW own nm cc nL ret hh X d post kc ks o q lv (.int (tb (-x).toNatClampNeg) :: st) ws) : AW own nm cc nL ret hh X d post kc ks (if -x < 0 ∨ 100 ≤ (-x).toNatClampNeg then none else o) pc lv st ws := by
  subst hq
  intro z hz p l e R s m args below meth c D TY A H locs cells slots mc ms ls C hK hZ hd1 hd2 hc1 hc2 hc3 hc4 hP hD hS hl0
  by_cases h9 : -x < 0 ∨ 100 ≤ (-x).toNatClampNeg
  · rw [if_pos h9] at hz; cases hz
  · rw [if_neg h9] at hz
    obtain ⟨t, ht1, ht2⟩ := hZ.2.2.2.2.2.2.2.2 _ hS0
    refine va_gets C.1 C.2.1 ht1 hS C.2.2.2.2.1 (C.2.2.2.2.2.1 _ hl) (fun _ h9 => h9) d0 ?_
    refine lv_iload_n C.1 C.2.1 d3 rfl (lv_at hl0 j hj) ?_
    refine lv_ineg C.1 C.2.1 d4 ?_
    refine va_tb C.1 C.2.1 ht2 hS h9 rfl d5 ?_
    exact K z hz p l e R s m args below meth c D TY A H locs cells slots mc ms ls C hK hZ hd1 hd2 hc1 hc2 hc3 hc4 hP hD hS hl0
theorem aw_tab2 {S : String} {tb : Nat → Int32} {index k : Nat} {x : Int32} [dec : Decidable (x < 0 ∨ 100 ≤ x.toNatClampNeg)] (d0 : decode cc pc = .ok (.getstatic index, 3)) (d3 : decode cc (pc + 3) = .ok (.iload k, 2)) (d5 : decode cc (pc + 5) = .ok (.baload, 1)) (hq : pc + 6 = q) (hl : Cond.fieldLink own index "java/lang/Integer" S "[B" ∈ TB) (hS0 : (S, tb) ∈ TABS) (j : Nat) (hj : lv[j]? = some (k, .int x)) (K : AW own nm cc nL ret hh X d post kc ks o q lv (.int (tb x.toNatClampNeg) :: st) ws) : AW own nm cc nL ret hh X d post kc ks (if x < 0 ∨ 100 ≤ x.toNatClampNeg then none else o) pc lv st ws := by
  subst hq
  intro z hz p l e R s m args below meth c D TY A H locs cells slots mc ms ls C hK hZ hd1 hd2 hc1 hc2 hc3 hc4 hP hD hS hl0
  by_cases h9 : x < 0 ∨ 100 ≤ x.toNatClampNeg
  · rw [if_pos h9] at hz; cases hz
  · rw [if_neg h9] at hz
    obtain ⟨t, ht1, ht2⟩ := hZ.2.2.2.2.2.2.2.2 _ hS0
    refine va_gets C.1 C.2.1 ht1 hS C.2.2.2.2.1 (C.2.2.2.2.2.1 _ hl) (fun _ h9 => h9) d0 ?_
    refine lv_iload C.1 C.2.1 d3 (lv_at hl0 j hj) ?_
    refine va_tb C.1 C.2.1 ht2 hS h9 rfl d5 ?_
    exact K z hz p l e R s m args below meth c D TY A H locs cells slots mc ms ls C hK hZ hd1 hd2 hc1 hc2 hc3 hc4 hP hD hS hl0
/-- a private method of a class above C, called on C: none else is selected -/
theorem sel_sub {C : String} {y w : MethodName} {args : Array Value} {s : State} (hz : (Cond.selects C w w).before args s = true) (hcl : w.cls = y.cls) (hy : y.cls ≠ "java/lang/invoke/MethodHandle" ∧ y.cls ≠ "java/lang/invoke/VarHandle") (hpriv : (Cond.privateMethod y).before args s = true) (hinst : (Cond.instanceMethod y).before args s = true) : (Cond.selects C y y).before args s = true := by
  obtain ⟨mk, methM, hnamed, hmethM, -, -⟩ := Cond.instanceMethod_spec hinst
  have hfound : s.methodFound? y.cls y.name y.desc = some mk := State.methodFound?_of_named hnamed hy
  have hsel : ∀ c, selectMethod {} s.vm c mk = .method mk := fun c => selectMethod_private hmethM (Cond.privateMethod_at hpriv mk methM hnamed hmethM)
  simp only [Cond.before, Cond.holds, Cond.value] at hz ⊢
  cases hc : s.vm.findClass C with
  | none => simp [hc] at hz
  | some c =>
    cases hf : s.methodFound? w.cls w.name w.desc with
    | none => simp [hc, hf] at hz
    | some r =>
      cases hn : s.methodNamed? w with
      | none => simp [hc, hf, hn] at hz
      | some m =>
        have e1 := findClass_of_methodNamed hn
        have e2 := findClass_of_methodNamed hnamed
        rw [hcl] at e1
        have e : mk.cls = m.cls := Option.some.inj (e2.symm.trans e1)
        simp only [hc, hf, hn] at hz
        have hi : (s.vm.classes[m.cls]?).any (fun k => !k.isInterface) = true := by
          cases hq : selectMethod {} s.vm c r with
          | method m' => rw [hq] at hz; simp at hz ⊢; exact hz.2
          | _ => rw [hq] at hz; simp at hz
        simp only [hfound, hnamed, hsel, e, hi]
        simp
/-- a method of the class above, found by the receiver (own names it as x; C selects y) -/
theorem runU {C : String} {x y : MethodName} {bytes : ByteArray} {maxL n index d' kc' ks' ci b q0 : Nat} {ret' : Option FieldType} {As : List Value} {fs : List Value} {st0 : List Value} {wc : aW} {P : aO → aW → Prop} {r : vw_C} (dg : decode cc pc = .ok (.invokevirtual index, 3)) (hm : MI y bytes maxL n ret') (hi : Cond.instanceMethod y ∈ TB) (hse : ∀ (args : Array Value) (s : State), (∀ w ∈ TB, w.before args s = true) → (∀ w ∈ NGW, va_Nw w s) → (Cond.selects C x y).before args s = true) (hsm : Cond.sameMethod x.cls x.cls x.name x.desc ∈ TB) (hix : Cond.instanceMethod x ∈ TB) {b0 : ByteArray} {m0 : Nat} {r0 : Option FieldType} (hcx : Cond.code x b0 m0 r0 ∈ TB) (hl : Cond.methodLink own index x ∈ TB) (hnx : (x.cls ≠ "java/lang/invoke/MethodHandle" ∧ x.cls ≠ "java/lang/invoke/VarHandle") ∧ (parseMethodDescriptor x.desc).map (fun d => d.parameters.length) = some n) (hd : d' + 1 ≤ d) (hn : As.length = n) (hst : (st.map fun v => v.category).sum ≤ 8) (he : ws[q0]? = some (b, .inr (ci, fs))) (hc : vwCl[ci]? = some r) (hcn : r.1 = C) (hst0 : st0 = As.reverse ++ .ref b :: st) :
    RunOf own cc nL d pc index y (.code y bytes maxL ret') d' kc' ks' (.ref b :: As) st st0 ws wc P := by
  subst hst0
  intro p l e R s m args below meth c D TY A H locs cells slots ls is hx hb hml hown hts hlt hA hK hZ hd1 hd2 hc1 hc2 hP hD hS hls hnd hC hok
  obtain ⟨hbl, hpc, hF⟩ := pc_of (As := .ref b :: As) (p := p) (l := l) (m := m) (args := args) (meth := meth) (c := c) hK hZ hP hD hS hA hnd hC
  have hrecv := va_recv hK hP hc (re_get he)
  rw [hcn] at hrecv
  obtain ⟨m1, m2, m3, m4, m5⟩ := hm
  refine vx_runU (owner := x.cls) (C := C) (x := x) (bytes := bytes) (maxL := maxL) (ret := ret') (cc := cc) (nL := nL) (Ts := TB) ⟨hx, hb, hml, hown, hts⟩ (hok l D TY H.size hlt) ⟨⟨rfl, rfl, by show d' + 1 ≤ R.frames; omega, by show 8 + (maxL + 11) + 64 * d' ≤ R.locals; omega, ws_stay hts m1, List.mem_cons_self⟩, hts _ m1, hts _ m2, hnx.1, fun sig h => ?_, hts _ hl, hts _ hsm, va_Decl.of (hts _ hix) (hts _ hcx), hse args s hts hZ.2.2.2.2.2.1, hts _ hi⟩ ⟨hbl, hrecv, hpc⟩ rfl hn hls rfl (lv_room hst) dg ⟨hc1, hc2⟩
  have h2 := hnx.2
  rw [h] at h2
  exact (Option.some.inj h2).symm
/-- super.m(..) -/
theorem runSU {y : MethodName} {bytes : ByteArray} {maxL n index d' kc' ks' ci b q0 : Nat} {ret' : Option FieldType} {As : List Value} {fs : List Value} {st0 : List Value} {wc : aW} {P : aO → aW → Prop} {r : vw_C} (dg : decode cc pc = .ok (.invokespecial index, 3)) (hm : MI y bytes maxL n ret') (hy : y.name ≠ "<init>") (hi : Cond.instanceMethod y ∈ TB) (hsm : Cond.sameMethod y.cls y.cls y.name y.desc ∈ TB) (hsu : Cond.superclass own y.cls ∈ TB) (hl : Cond.methodLink own index y ∈ TB) (hd : d' + 1 ≤ d) (hn : As.length = n) (hst : (st.map fun v => v.category).sum ≤ 8) (he : ws[q0]? = some (b, .inr (ci, fs))) (hc : vwCl[ci]? = some r) (hst0 : st0 = As.reverse ++ .ref b :: st) :
    RunOf own cc nL d pc index y (.code y bytes maxL ret') d' kc' ks' (.ref b :: As) st st0 ws wc P := by
  subst hst0
  intro p l e R s m args below meth c D TY A H locs cells slots ls is hx hb hml hown hts hlt hA hK hZ hd1 hd2 hc1 hc2 hP hD hS hls hnd hC hok
  obtain ⟨hbl, hpc, hF⟩ := pc_of (As := .ref b :: As) (p := p) (l := l) (m := m) (args := args) (meth := meth) (c := c) hK hZ hP hD hS hA hnd hC
  have hrecv := va_recv hK hP hc (re_get he)
  obtain ⟨m1, m2, m3, m4, m5⟩ := hm
  have hG : GoodIn TB (va_wsSU own index y (.code y bytes maxL ret' :: TB)) := gin (fun w hw => by
    simp only [va_wsSU, List.cons_append, List.nil_append, List.mem_cons] at hw
    rcases hw with rfl | rfl | rfl | rfl | rfl | rfl | hw
    · exact hl
    · exact hsm
    · exact hsu
    · exact hi
    · exact m2
    · exact m1
    · exact hw)
  exact vx_runSU (C := r.1) (hK.1 ci r hc).2 (cc := cc) (nL := nL) (Ts := TB) ⟨hx, hb, hml, hown, hts⟩ (hok l D TY H.size hlt) (va_cwSU n hts hG rfl rfl rfl ⟨hy, m4⟩ ⟨by show d' + 1 ≤ R.frames; omega, by show 8 + (maxL + 11) + 64 * d' ≤ R.locals; omega⟩) ⟨hbl, hrecv, hpc⟩ rfl hn hls rfl (lv_room hst) dg ⟨hc1, hc2⟩
theorem rar2 {g : Nat → Nat} : (fun i => if i < 2 then some (g i) else none) = va_up (va_up (fun _ => none) 0 (some (g 0))) 1 (some (g 1)) := by
  funext i
  match i with
  | 0 => rfl
  | 1 => rfl
  | i + 2 => simp [va_up]
theorem rar3 {g : Nat → Nat} : (fun i => if i < 3 then some (g i) else none) = va_up (va_up (va_up (fun _ => none) 0 (some (g 0))) 1 (some (g 1))) 2 (some (g 2)) := by
  funext i
  match i with
  | 0 => rfl
  | 1 => rfl
  | 2 => rfl
  | i + 3 => simp [va_up]
theorem aw_pos {b : Nat} (K : ¬ b = 0 → AW own nm cc nL ret hh X d post kc ks o pc lv st ws) : AW own nm cc nL ret hh X d post kc ks (if b = 0 then none else o) pc lv st ws := by
  by_cases h : b = 0
  · rw [if_pos h]; exact aw_none
  · rw [if_neg h]; exact K h
end AWR
