section AWR
variable {own nm : String} {cc : ByteArray} {nL : Nat} {ret : Option FieldType} {hh : List (Nat × Nat × Nat × Nat)} {X : aX} {d : Nat} {T : Type} {post : T → aO → aW → Prop} {kc ks : Nat} {o : Option T} {pc q : Nat} {lv lv' : List (Nat × Value)} {st : List Value} {ws : aW}
theorem cn_of {R : Room} {s : State} {args : Array Value} {own host : String} {index : Nat} {y : MethodName} {bytes : ByteArray} {maxL n d d' kc' ks' : Nat} {ret : Option FieldType} (hts : ∀ w ∈ TB, w.before args s = true) (hng : ∀ w ∈ NGW, va_Nw w s) (hm : MI y bytes maxL n ret) (hl : Cond.methodLinkNest own index y host ∈ NGW) (hd : d' + 1 ≤ d) (hd1 : d ≤ R.frames) (hd2 : 64 * d ≤ R.locals) :
    va_CN R s args own index y host bytes maxL ret (Cond.code y bytes maxL ret :: TB) (rmOf d' kc' ks') kc' ks' n := by
  obtain ⟨h1, h2, h3, h4, h5⟩ := hm
  refine ⟨⟨rfl, rfl, by show d' + 1 ≤ R.frames; omega, by show 8 + (maxL + 11) + 64 * d' ≤ R.locals; omega, ws_stay hts h1, List.mem_cons_self⟩, hts _ h1, hts _ h2, h3, fun sig h => ?_, NGW_use hl (hng _ hl)⟩
  rw [h] at h4
  exact (Option.some.inj h4).symm
/-- what a callee's contract asks, said of the caller's world -/
theorem pc_of {p : Program} {l : Launch} {s : State} {m : MethodId} {args : Array Value} {meth : Method} {c : Code} {D : va_G} {TY : Nat → ClassId} {A : Nat → Prop} {H : Heap} {locs : List Loc} {wc : aW} {is : List Nat} {As : List Value} (hK : va_K D vwCl (tysOf TY) s) (hZ : ZF A s s.heap) (hP : va_P D vwCl (re TY ws) H) (hD : va_D A (re TY ws)) (hS : va_S A s.heap H locs) (hA : ∀ q : Nat, s.heap.size ≤ q → A q) (hn : va_nd is = true) (hC : is.map (fun i => ws[i]?) = wc.map some) :
    FrameBlind (va_Pc As (fun U => U.heap.size = H.size ∧ va_P D vwCl (re TY wc) U.heap ∧ va_K D vwCl (tysOf TY) U ∧ va_D (fun _ => True) (re TY wc) ∧ ZF (va_A (re TY wc) H.size) U U.heap)) ∧
    (∀ U : State, U.heap = H → s.WarmedH U.vm → va_Pc As (fun U => U.heap.size = H.size ∧ va_P D vwCl (re TY wc) U.heap ∧ va_K D vwCl (tysOf TY) U ∧ va_D (fun _ => True) (re TY wc) ∧ ZF (va_A (re TY wc) H.size) U U.heap) As.toArray U) ∧ (∀ q, va_A (re TY wc) H.size q → A q) := by
  have hC' := re_places (TY := TY) hC
  have hF : ∀ q, va_A (re TY wc) H.size q → A q := va_free (wc := re TY wc) hD hS hA is hC'
  refine ⟨fun a U g mk q => ?_, fun U hU hW => ?_, hF⟩
  · obtain ⟨q0, q1, q2, q3, q4, q5⟩ := q
    exact ⟨q0, q1, q2, va_K.moved (u := U) (U := U.calling g mk a) (Vm.Alike.refl U.vm) q3, q4, ZF.calling q5⟩
  · exact ⟨rfl, by rw [hU], by rw [hU]; exact re_sub hP hC', va_K.moved hW.alike hK, (hD.sub is hn hC').weaken (fun _ _ _ _ => trivial), ZF.call hZ hS hU hW hF⟩
/-- behind a call -/
theorem aw_run {p : Program} {l : Launch} {e : Env} {R : Room} {s : State} {m : MethodId} {args : Array Value} {below : List Frame} {meth : Method} {c : Code} {D : va_G} {TY : Nat → ClassId} {A : Nat → Prop} {H : Heap} {locs : List Loc} {cells slots kc' ks' : Nat} {ls : Array Slot} {Q : State → Prop} {st0 : List Value} {P : aO → aW → Prop} {a : Array Value} {wc wr : aW} {isC isR : List Nat}
    (hC : isC.map (fun i => ws[i]?) = wc.map some) (hR : isR.map (fun i => ws[i]?) = wr.map some) (hn : va_nd isR = true) (hdis : ∀ i ∈ isR, i ∉ isC)
    (hP : va_P D vwCl (re TY ws) H) (hD : va_D A (re TY ws)) (hS : va_S A s.heap H locs) (hF : ∀ q, va_A (re TY wc) H.size q → A q)
    (hr : vx_Run p l e R s m args below meth c H locs cells slots kc' ks' (F0 m pc ls st0) st (QC D TY (va_A (re TY wc) H.size) P a) (XC D TY (va_A (re TY wc) H.size) P) (va_A (re TY wc) H.size))
    (kk : ∀ (v : Option Value) (w : aW) (H1 : Heap) (locs1 : List Loc), P (.inl v) w → va_P D vwCl (re TY (wr ++ w)) H1 → va_D A (re TY (wr ++ w)) → va_S A s.heap H1 locs1 → W p l e R s m args below meth c H1 locs1 (cells + kc') (slots + ks') Q (F0 m (pc + 3) ls (v.toList ++ st)))
    (kx : ∀ (E : String) (w : aW) (ce : Cell) (q9 : Addr) (H1 : Heap) (locs1 : List Loc), P (.inr E) w → va_P D vwCl (re TY (wr ++ w)) H1 → va_D A (re TY (wr ++ w)) → va_S A s.heap H1 locs1 → H1[q9]? = some ce → ce.vm = .none → s.vm.findClass E = some ce.cls → vx_W p l e R s m args below meth c H1 locs1 (cells + kc') (slots + ks') Q (F0 m pc ls st) q9) :
    W p l e R s m args below meth c H locs cells slots Q (F0 m pc ls st0) := by
  have hC' := re_places (TY := TY) hC
  have hR' := re_places (TY := TY) hR
  intro T hT Xs
  rcases hr T hT Xs with ⟨v, st₀, t, T', L, h0, X', hL, e1, e2, ⟨⟨v', w, hv, hp, hPw, hDw⟩, hFr⟩, stp⟩ | ⟨q, st₀, t, T', L, E, ce, h0, X', hL, e1, e2, ⟨⟨w, hp, hPw, hDw⟩, hFr⟩, hce, hcv, hcl, stp⟩
  · cases hv
    obtain ⟨k1, k2, k3⟩ := vx_keep h0 e1 hS (fun q _ h => hF q h) hF hL hFr
    rw [← e1] at hPw
    obtain ⟨j1, j2⟩ := va_join hP hD isC isR hC' hR' hn hdis k2 hF hPw hDw
    rw [← re_app] at j1 j2
    obtain ⟨t2, a1, b1⟩ := kk v w T'.heap (locs ++ L) hp j1 j2 k3 T' rfl X'
    exact ⟨t2, stp t2 a1, b1⟩
  · obtain ⟨k1, k2, k3⟩ := vx_keep h0 e1 hS (fun q _ h => hF q h) hF hL hFr
    rw [← e1] at hPw
    obtain ⟨j1, j2⟩ := va_join hP hD isC isR hC' hR' hn hdis k2 hF hPw hDw
    rw [← re_app] at j1 j2
    obtain ⟨t2, a1, b1⟩ := kx E w ce q T'.heap (locs ++ L) hp j1 j2 k3 (by rw [e1]; exact hce) hcv hcl T' rfl X'
    exact ⟨t2, stp.trans a1, b1⟩
/-- how a callee is reached: a row of the four (private and other instance methods, static ones, constructors; nest mates) -/
def RunOf (own : String) (cc : ByteArray) (nL d : Nat) (pc index : Nat) (y : MethodName) (w0 : Cond) (d' kc' ks' : Nat) (As : List Value) (st st0 : List Value) (ws wc : aW) (P : aO → aW → Prop) : Prop :=
  ∀ (p : Program) (l : Launch) (e : Env) (R : Room) (s : State) (m : MethodId) (args : Array Value) (below : List Frame) (meth : Method) (c : Code) (D : va_G) (TY : Nat → ClassId) (A : Nat → Prop) (H : Heap) (locs : List Loc) (cells slots : Nat) (ls : Array Slot) (is : List Nat),
    p.tables.exec = Jvm.exec → c.code = cc → c.maxLocals = nL → s.vm.findClass own = some m.cls → (∀ w ∈ TB, w.before args s = true) → l.stackTraces = false → (∀ q : Nat, s.heap.size ≤ q → A q) → va_K D vwCl (tysOf TY) s → ZF A s s.heap → d ≤ R.frames → 64 * d ≤ R.locals → cells + kc' ≤ R.cells → slots + ks' ≤ R.slots → va_P D vwCl (re TY ws) H → va_D A (re TY ws) → va_S A s.heap H locs → ls.size = nL → va_nd is = true → is.map (fun i => ws[i]?) = wc.map some → OkM y w0 d' kc' ks' As wc P →
    vx_Run p l e R s m args below meth c H locs cells slots kc' ks' (F0 m pc ls st0) st (QC D TY (va_A (re TY wc) H.size) P As.toArray) (XC D TY (va_A (re TY wc) H.size) P) (va_A (re TY wc) H.size)
theorem runV {y : MethodName} {bytes : ByteArray} {maxL n index d' kc' ks' ci b q0 : Nat} {ret' : Option FieldType} {As : List Value} {fs : List Value} {st0 : List Value} {wc : aW} {P : aO → aW → Prop} {r : vw_C} (dg : decode cc pc = .ok (.invokevirtual index, 3)) (hm : MI y bytes maxL n ret') (hi : Cond.instanceMethod y ∈ TB) (hse : Cond.selects y.cls y y ∈ TB) (hl : Cond.methodLink own index y ∈ TB) (hd : d' + 1 ≤ d) (hn : As.length = n) (hst : (st.map fun v => v.category).sum ≤ 8) (he : ws[q0]? = some (b, .inr (ci, fs))) (hc : vwCl[ci]? = some r) (hcn : r.1 = y.cls) (hst0 : st0 = As.reverse ++ .ref b :: st) :
    RunOf own cc nL d pc index y (.code y bytes maxL ret') d' kc' ks' (.ref b :: As) st st0 ws wc P := by
  subst hst0
  intro p l e R s m args below meth c D TY A H locs cells slots ls is hx hb hml hown hts hlt hA hK hZ hd1 hd2 hc1 hc2 hP hD hS hls hnd hC hok
  obtain ⟨hbl, hpc, hF⟩ := pc_of (As := .ref b :: As) (p := p) (l := l) (m := m) (args := args) (meth := meth) (c := c) hK hZ hP hD hS hA hnd hC
  have hrecv := va_recv hK hP hc (re_get he)
  rw [hcn] at hrecv
  exact vx_runV (cc := cc) (nL := nL) (Ts := TB) ⟨hx, hb, hml, hown, hts⟩ (hok l D TY H.size hlt) ⟨cb_of hts hm hl hd hd1 hd2, hts _ hi, hts _ hse⟩ ⟨hbl, hrecv, hpc⟩ rfl hn hls rfl (lv_room hst) dg ⟨hc1, hc2⟩
theorem runS {y : MethodName} {bytes : ByteArray} {maxL n index d' kc' ks' : Nat} {ret' : Option FieldType} {As : List Value} {st0 : List Value} {wc : aW} {P : aO → aW → Prop} (dg : decode cc pc = .ok (.invokestatic index, 3)) (hm : MI y bytes maxL n ret') (hi : Cond.static y ∈ TB) (hl : Cond.methodLink own index y ∈ TB) (hd : d' + 1 ≤ d) (hn : As.length = n) (hst : (st.map fun v => v.category).sum ≤ 8) (hst0 : st0 = As.reverse ++ st) :
    RunOf own cc nL d pc index y (.code y bytes maxL ret') d' kc' ks' As st st0 ws wc P := by
  subst hst0
  intro p l e R s m args below meth c D TY A H locs cells slots ls is hx hb hml hown hts hlt hA hK hZ hd1 hd2 hc1 hc2 hP hD hS hls hnd hC hok
  obtain ⟨hbl, hpc, hF⟩ := pc_of (As := As) (p := p) (l := l) (m := m) (args := args) (meth := meth) (c := c) hK hZ hP hD hS hA hnd hC
  exact vx_runS (cc := cc) (nL := nL) (Ts := TB) ⟨hx, hb, hml, hown, hts⟩ (hok l D TY H.size hlt) ⟨cb_of hts hm hl hd hd1 hd2, hts _ hi⟩ ⟨hbl, hpc⟩ rfl hn hls rfl (lv_room hst) dg ⟨hc1, hc2⟩
theorem runSN {y : MethodName} {host : String} {bytes : ByteArray} {maxL n index d' kc' ks' : Nat} {ret' : Option FieldType} {As : List Value} {st0 : List Value} {wc : aW} {P : aO → aW → Prop} (dg : decode cc pc = .ok (.invokestatic index, 3)) (hm : MI y bytes maxL n ret') (hi : Cond.static y ∈ TB) (hl : Cond.methodLinkNest own index y host ∈ NGW) (hd : d' + 1 ≤ d) (hn : As.length = n) (hst : (st.map fun v => v.category).sum ≤ 8) (hst0 : st0 = As.reverse ++ st) :
    RunOf own cc nL d pc index y (.code y bytes maxL ret') d' kc' ks' As st st0 ws wc P := by
  subst hst0
  intro p l e R s m args below meth c D TY A H locs cells slots ls is hx hb hml hown hts hlt hA hK hZ hd1 hd2 hc1 hc2 hP hD hS hls hnd hC hok
  obtain ⟨hbl, hpc, hF⟩ := pc_of (As := As) (p := p) (l := l) (m := m) (args := args) (meth := meth) (c := c) hK hZ hP hD hS hA hnd hC
  exact vx_runSN (cc := cc) (nL := nL) (Ts := TB) ⟨hx, hb, hml, hown, hts⟩ (hok l D TY H.size hlt) ⟨cn_of hts hZ.2.2.2.2.2.1 hm hl hd hd1 hd2, hts _ hi, trivial⟩ ⟨hbl, hpc⟩ rfl hn hls rfl (lv_room hst) dg ⟨hc1, hc2⟩
theorem runI {y : MethodName} {bytes : ByteArray} {maxL n index d' kc' ks' b : Nat} {As : List Value} {st0 : List Value} {wc : aW} {P : aO → aW → Prop} (dg : decode cc pc = .ok (.invokespecial index, 3)) (hm : MI y bytes maxL n none) (hy : y.name = "<init>") (hi : Cond.instanceMethod y ∈ TB) (hl : Cond.methodLink own index y ∈ TB) (hd : d' + 1 ≤ d) (hn : As.length = n) (hst : (st.map fun v => v.category).sum ≤ 8) (hst0 : st0 = As.reverse ++ .ref b :: st) :
    RunOf own cc nL d pc index y (.code y bytes maxL none) d' kc' ks' (.ref b :: As) st st0 ws wc P := by
  subst hst0
  intro p l e R s m args below meth c D TY A H locs cells slots ls is hx hb hml hown hts hlt hA hK hZ hd1 hd2 hc1 hc2 hP hD hS hls hnd hC hok
  obtain ⟨hbl, hpc, hF⟩ := pc_of (As := .ref b :: As) (p := p) (l := l) (m := m) (args := args) (meth := meth) (c := c) hK hZ hP hD hS hA hnd hC
  exact vx_runI (cc := cc) (nL := nL) (Ts := TB) ⟨hx, hb, hml, hown, hts⟩ (hok l D TY H.size hlt) ⟨cb_of hts hm hl hd hd1 hd2, hy, hts _ hi⟩ ⟨hbl, hpc⟩ rfl hn hls rfl (lv_room hst) dg ⟨hc1, hc2⟩
theorem runIN {y : MethodName} {host : String} {bytes : ByteArray} {maxL n index d' kc' ks' b : Nat} {As : List Value} {st0 : List Value} {wc : aW} {P : aO → aW → Prop} (dg : decode cc pc = .ok (.invokespecial index, 3)) (hm : MI y bytes maxL n none) (hy : y.name = "<init>") (hi : Cond.instanceMethod y ∈ TB) (hl : Cond.methodLinkNest own index y host ∈ NGW) (hd : d' + 1 ≤ d) (hn : As.length = n) (hst : (st.map fun v => v.category).sum ≤ 8) (hst0 : st0 = As.reverse ++ .ref b :: st) :
    RunOf own cc nL d pc index y (.code y bytes maxL none) d' kc' ks' (.ref b :: As) st st0 ws wc P := by
  subst hst0
  intro p l e R s m args below meth c D TY A H locs cells slots ls is hx hb hml hown hts hlt hA hK hZ hd1 hd2 hc1 hc2 hP hD hS hls hnd hC hok
  obtain ⟨hbl, hpc, hF⟩ := pc_of (As := .ref b :: As) (p := p) (l := l) (m := m) (args := args) (meth := meth) (c := c) hK hZ hP hD hS hA hnd hC
  exact vx_runIN (cc := cc) (nL := nL) (Ts := TB) ⟨hx, hb, hml, hown, hts⟩ (hok l D TY H.size hlt) ⟨cn_of hts hZ.2.2.2.2.2.1 hm hl hd hd1 hd2, hy, hts _ hi⟩ ⟨hbl, hpc⟩ rfl hn hls rfl (lv_room hst) dg ⟨hc1, hc2⟩
/-- the forms of an end: a value and a world, read off the pure value (and off the addresses of what was made) -/
def PN {U : Type} (val : U → (Nat → Nat) → Option Value) (wf : U → (Nat → Nat) → aW) : U → aO → aW → Prop := fun x o w => ∃ q : Nat → Nat, o = .inl (val x q) ∧ w = wf x q
/-- .. or E thrown, and nothing changed -/
def PX {U : Type} (val : U → (Nat → Nat) → Option Value) (wf : U → (Nat → Nat) → aW) (w0 : aW) : U ⊕ String → aO → aW → Prop := fun x o w => match x with
  | .inl x => ∃ q : Nat → Nat, o = .inl (val x q) ∧ w = wf x q
  | .inr E => o = .inr E ∧ w = w0
def xb {U V : Type} (u : Option (U ⊕ String)) (k : U → Option (V ⊕ String)) : Option (V ⊕ String) := match u with
  | none => none
  | some (.inr E) => some (.inr E)
  | some (.inl a) => k a
/-- a call of a method that doesn't throw -/
theorem aw_call {U : Type} {index d' kc' ks' kc1 ks1 : Nat} {y : MethodName} {w0 : Cond} {As st0 : List Value} {wc wr : aW} {val : U → (Nat → Nat) → Option Value} {wf : U → (Nat → Nat) → aW} {u : Option U} {Kf : U → Option T} {st1 : U → (Nat → Nat) → List Value} {ws1 : U → (Nat → Nat) → aW} (isC isR : List Nat)
    (hr : ∀ P : aO → aW → Prop, RunOf own cc nL d pc index y w0 d' kc' ks' As st st0 ws wc P) (hok : ∀ x, u = some x → OkM y w0 d' kc' ks' As wc (PN val wf x)) (hq : pc + 3 = q) (hnC : va_nd isC = true) (hC : isC.map (fun i => ws[i]?) = wc.map some) (hR : isR.map (fun i => ws[i]?) = wr.map some) (hn : va_nd isR = true) (hdis : ∀ i ∈ isR, i ∉ isC) (h1 : kc1 + kc' ≤ kc) (h2 : ks1 + ks' ≤ ks)
    (hst1 : ∀ x g, (val x g).toList ++ st = st1 x g) (hws1 : ∀ x g, wr ++ wf x g = ws1 x g) (K : ∀ x g, AW own nm cc nL ret hh X d post kc1 ks1 (Kf x) q lv (st1 x g) (ws1 x g)) : AW own nm cc nL ret hh X d post kc ks (u.bind Kf) pc lv st0 ws := by
  subst hq
  intro z hz p l e R s m args below meth c D TY A H locs cells slots mc ms ls C hK hZ hd1 hd2 hc1 hc2 hc3 hc4 hP hD hS hl0
  cases hu : u with
  | none => rw [hu] at hz; cases hz
  | some x =>
    rw [hu] at hz
    have hF := (pc_of (As := As) (p := p) (l := l) (m := m) (args := args) (meth := meth) (c := c) hK hZ hP hD hS C.2.2.2.2.2.2.2.2.2.2.2 hnC hC).2.2
    refine aw_run hC hR hn hdis hP hD hS hF (hr _ p l e R s m args below meth c D TY A H locs cells slots ls isC C.1 C.2.1 C.2.2.1 C.2.2.2.2.1 C.2.2.2.2.2.1 C.2.2.2.2.2.2.2.2.2.1 C.2.2.2.2.2.2.2.2.2.2.2 hK hZ hd1 hd2 (by omega) (by omega) hP hD hS hl0.1 hnC hC (hok x hu)) (fun v w H1 locs1 hp hP1 hD1 hS1 => ?_) (fun E w ce q9 H1 locs1 hp hP1 hD1 hS1 _ _ _ => ?_)
    · obtain ⟨g, e1, e2⟩ := hp
      cases e1
      subst e2
      rw [hws1] at hP1 hD1
      rw [hst1]
      exact K x g z hz p l e R s m args below meth c D TY A H1 locs1 (cells + kc') (slots + ks') mc ms ls C hK hZ hd1 hd2 hc1 hc2 (by omega) (by omega) hP1 hD1 hS1 hl0
    · obtain ⟨g, e1, -⟩ := hp
      cases e1
end AWR
