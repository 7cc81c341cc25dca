section AWL
variable {own nm : String} {cc : ByteArray} {nL : Nat} {ret : Option FieldType} {hh : List (Nat × Nat × Nat × Nat)} {X : aX} {d : Nat} {T : Type} {post : T → aO → aW → Prop} {kc ks : Nat} {o : Option T} {pc q : Nat} {lv lv' : List (Nat × Value)} {st : List Value} {ws : aW}
/-! ===== frames of contracts; handlers; the script ===== -/
theorem ok_fr {y : MethodName} {w0 : Cond} {kc0 ks0 : Nat} {args : List Value} {wc wr : aW} {P P' : aO → aW → Prop} (isC isR : List Nat) (hok : OkM y w0 d kc0 ks0 args wc P) (hnC : va_nd isC = true) (hC : isC.map (fun i => ws[i]?) = wc.map some) (hR : isR.map (fun i => ws[i]?) = wr.map some) (hnR : va_nd isR = true) (hdis : ∀ i ∈ isR, i ∉ isC)
    (h : ∀ o w, P o w → ∃ (w' : aW) (js : List Nat), P' o w' ∧ va_nd js = true ∧ js.map (fun i => (wr ++ w)[i]?) = w'.map some) : OkM y w0 d kc0 ks0 args ws P' := by
  intro l D TY sz hlt
  have hM := hok l D TY sz hlt
  have hC' := re_places (TY := TY) hC
  have hR' := re_places (TY := TY) hR
  intro p e ha hc hk s m a below hf happ hP hK0
  obtain ⟨ha0, hsz, hPw, hKw, hDw, hZw⟩ := hP
  subst hsz
  have hDs : va_D (va_A (re TY ws) s.heap.size) (re TY ws) := hDw.self
  have hF : ∀ q, va_A (re TY wc) s.heap.size q → va_A (re TY ws) s.heap.size q := va_free (H0 := s.heap) (H := s.heap) (locs := []) hDs va_S.rf (fun q h => Or.inr h) isC hC'
  obtain ⟨n, o, h1, h2, h3, h4⟩ := hM p e ha hc hk s m a below hf happ ⟨ha0, rfl, re_sub hPw hC', hKw, hDw.sub isC hnC hC', ZF.to hZw (fun _ _ _ => rfl) (State.WarmedH.refl s) hF⟩ hK0
  refine ⟨n, o, h1, h2, h3, ?_⟩
  rcases h4 with ⟨⟨⟨v, w, hv, hp, hPw2, hDw2⟩, hFr⟩, L, hE, hL⟩ | ⟨q, ho, E, ce, L, ⟨⟨w, hp, hPw2, hDw2⟩, hFr⟩, hce, hcv, hcl, hW, hsame, hL⟩
  · obtain ⟨w', js, hp', hn', hj⟩ := h _ _ hp
    have hj' := re_places (TY := TY) hj
    obtain ⟨j1, j2⟩ := va_join hPw hDs isC isR hC' hR' hnR hdis hFr.2 hF hPw2 hDw2
    rw [← re_app] at j1 j2
    exact Or.inl ⟨⟨⟨v, w', hv, hp', re_sub j1 hj', j2.sub js hn' hj'⟩, hFr.1, fun q g1 g2 => hFr.2 q g1 (fun g3 => g2 (hF q g3))⟩, L, hE, fun q hq => hF _ (hL q hq)⟩
  · obtain ⟨w', js, hp', hn', hj⟩ := h _ _ hp
    have hj' := re_places (TY := TY) hj
    obtain ⟨j1, j2⟩ := va_join hPw hDs isC isR hC' hR' hnR hdis hFr.2 hF hPw2 hDw2
    rw [← re_app] at j1 j2
    exact Or.inr ⟨q, ho, E, ce, L, ⟨⟨w', hp', re_sub j1 hj', j2.sub js hn' hj'⟩, hFr.1, fun q g1 g2 => hFr.2 q g1 (fun g3 => g2 (hF q g3))⟩, hce, hcv, hcl, hW, hsame, fun q hq => hF _ (hL q hq)⟩
/-- a contract's consequence -/
theorem ok_mono {y : MethodName} {w0 : Cond} {kc0 ks0 : Nat} {args : List Value} {P P' : aO → aW → Prop} (hok : OkM y w0 d kc0 ks0 args ws P) (h : ∀ o w, P o w → P' o w) : OkM y w0 d kc0 ks0 args ws P' := by
  intro l D TY sz hlt p e ha hc hk s m a below hf happ hP hK0
  obtain ⟨n, o, h1, h2, h3, h4⟩ := hok l D TY sz hlt p e ha hc hk s m a below hf happ hP hK0
  refine ⟨n, o, h1, h2, h3, ?_⟩
  rcases h4 with ⟨⟨⟨v, w, hv, hp, hPw2, hDw2⟩, hFr⟩, L, hE, hL⟩ | ⟨q, ho, E, ce, L, ⟨⟨w, hp, hPw2, hDw2⟩, hFr⟩, hce, hcv, hcl, hW, hsame, hL⟩
  · exact Or.inl ⟨⟨⟨v, w, hv, h _ _ hp, hPw2, hDw2⟩, hFr⟩, L, hE, hL⟩
  · exact Or.inr ⟨q, ho, E, ce, L, ⟨⟨w, h _ _ hp, hPw2, hDw2⟩, hFr⟩, hce, hcv, hcl, hW, hsame, hL⟩
/-- more room than is used -/
theorem aw_none' (h : o = none) : AW own nm cc nL ret hh X d post kc ks o pc lv st ws := fun x hx => by rw [h] at hx; cases hx
theorem aw_eq {o' : Option T} (h : o = o') (K : AW own nm cc nL ret hh X d post kc ks o' pc lv st ws) : AW own nm cc nL ret hh X d post kc ks o pc lv st ws := by rw [h]; exact K
def wb {U : Type} (u : Option (U ⊕ String)) (kf : U → Option T) (k1 k2 : Option T) : Option T := match u with
  | none => none
  | some (.inr E) => if E = "java/lang/IndexOutOfBoundsException" then k1 else if E = "java/lang/IllegalArgumentException" then k2 else none
  | some (.inl a) => kf a
/-- E, thrown at pc, is caught at hp -/
def CT (own : String) (hh : List (Nat × Nat × Nat × Nat)) (pc : Nat) (E : String) (hp : Nat) : Prop := ∃ (pre : List ExceptionTableEntry) (x : ExceptionTableEntry) (suf : List ExceptionTableEntry) (nm : String), tableOf hh = pre ++ x :: suf ∧ (∀ z ∈ pre, z.catchType ≠ 0 ∧ E = "java/lang/IllegalArgumentException" ∧ Cond.classLink own z.catchType "java/lang/IndexOutOfBoundsException" ∈ TB) ∧ covers x pc = true ∧ x.catchType ≠ 0 ∧ Cond.classLink own x.catchType nm ∈ TB ∧ Cond.castable E nm ∈ NGW ∧ x.handlerPc = hp
/-- a call of a method that may throw, both kinds caught -/
theorem aw_callC {U : Type} {index d' kc' ks' kc1 ks1 hp1 hp2 : Nat} {y : MethodName} {w0 : Cond} {As st0 : List Value} {wc wr : aW} {val : U → (Nat → Nat) → Option Value} {wf : U → (Nat → Nat) → aW} {u : Option (U ⊕ String)} {Kf : U → Option T} {k1 k2 : Option T} {st1 : U → (Nat → Nat) → List Value} {ws1 : U → (Nat → Nat) → aW} (isC isR : List Nat)
    (hr : ∀ P : aO → aW → Prop, RunOf own cc nL d pc index y w0 d' kc' ks' As st st0 ws wc P) (hok : ∀ x, u = some x → OkM y w0 d' kc' ks' As wc (PX val wf wc x)) (hq : pc + 3 = q) (hnC : va_nd isC = true) (hC : isC.map (fun i => ws[i]?) = wc.map some) (hR : isR.map (fun i => ws[i]?) = wr.map some) (hn : va_nd isR = true) (hdis : ∀ i ∈ isR, i ∉ isC) (h1 : kc1 + kc' ≤ kc) (h2 : ks1 + ks' ≤ ks)
    (hst1 : ∀ x g, (val x g).toList ++ st = st1 x g) (hws1 : ∀ x g, wr ++ wf x g = ws1 x g)
    (hx1 : k1 = none ∨ (CT own hh pc "java/lang/IndexOutOfBoundsException" hp1 ∧ ∀ q9 : Nat, AW own nm cc nL ret hh X d post kc1 ks1 k1 hp1 lv [.ref q9] (wr ++ wc)))
    (hx2 : k2 = none ∨ (CT own hh pc "java/lang/IllegalArgumentException" hp2 ∧ ∀ q9 : Nat, AW own nm cc nL ret hh X d post kc1 ks1 k2 hp2 lv [.ref q9] (wr ++ wc)))
    (K : ∀ x g, AW own nm cc nL ret hh X d post kc1 ks1 (Kf x) q lv (st1 x g) (ws1 x g)) : AW own nm cc nL ret hh X d post kc ks (wb u Kf k1 k2) pc lv st0 ws := by
  subst hq
  intro z hz p l e R s m args below meth c D TY A H locs cells slots mc ms ls C hK hZ hd1 hd2 hc1 hc2 hc3 hc4 hP hD hS hl0
  cases hu : u with
  | none => rw [hu] at hz; cases hz
  | some x =>
    rw [hu] at hz
    have hF := (pc_of (As := As) (p := p) (l := l) (m := m) (args := args) (meth := meth) (c := c) hK hZ hP hD hS C.2.2.2.2.2.2.2.2.2.2.2 hnC hC).2.2
    refine aw_run hC hR hn hdis hP hD hS hF (hr _ p l e R s m args below meth c D TY A H locs cells slots ls isC C.1 C.2.1 C.2.2.1 C.2.2.2.2.1 C.2.2.2.2.2.1 C.2.2.2.2.2.2.2.2.2.1 C.2.2.2.2.2.2.2.2.2.2.2 hK hZ hd1 hd2 (by omega) (by omega) hP hD hS hl0.1 hnC hC (hok x hu)) (fun v w H1 locs1 hp hP1 hD1 hS1 => ?_) (fun E w ce q9 H1 locs1 hp hP1 hD1 hS1 hce hcv hcl => ?_)
    · cases x with
      | inr E => obtain ⟨e1, -⟩ := hp; cases e1
      | inl x =>
        obtain ⟨g, e1, e2⟩ := hp
        cases e1
        subst e2
        rw [hws1] at hP1 hD1
        rw [hst1]
        exact K x g z hz p l e R s m args below meth c D TY A H1 locs1 (cells + kc') (slots + ks') mc ms ls C hK hZ hd1 hd2 hc1 hc2 (by omega) (by omega) hP1 hD1 hS1 hl0
    · cases x with
      | inl x => obtain ⟨g, e1, -⟩ := hp; cases e1
      | inr E' =>
        obtain ⟨e1, e2⟩ := hp
        cases e1
        subst e2
        have fin : ∀ (kE : Option T) (hp : Nat), kE = some z → CT own hh pc E hp → (∀ q9 : Nat, AW own nm cc nL ret hh X d post kc1 ks1 kE hp lv [.ref q9] (wr ++ w)) → vx_W p l e R s m args below meth c H1 locs1 (cells + kc') (slots + ks') (vx_MQ below (QC D TY A (post z)) (XC D TY A (post z)) args s mc ms A) (F0 m pc ls st) q9 := by
          intro kE hp hkE hct hk
          obtain ⟨pre, x, suf, nm', t1, t2, t3, t4, t5, t6, t7⟩ := hct
          refine vx_catch C.2.2.2.2.1 pre x suf (C.2.2.2.2.2.2.2.2.1.trans t1) (fun z9 h9 => ?_) t3 t4 (C.2.2.2.2.2.1 _ t5) (NGW_use t6 (hZ.2.2.2.2.2.1 _ t6)) hce hcv hcl ?_
          · obtain ⟨a1, a2, a3⟩ := t2 z9 h9
            exact Or.inr ⟨a1, _, C.2.2.2.2.2.1 _ a3, by rw [a2]; exact hZ.2.2.2.2.2.2.2.1⟩
          · rw [t7]
            exact hk q9 z hkE p l e R s m args below meth c D TY A H1 locs1 (cells + kc') (slots + ks') mc ms ls C hK hZ hd1 hd2 hc1 hc2 (by omega) (by omega) hP1 hD1 hS1 hl0
        have hz' : (if E = "java/lang/IndexOutOfBoundsException" then k1 else if E = "java/lang/IllegalArgumentException" then k2 else none) = some z := hz
        by_cases g1 : E = "java/lang/IndexOutOfBoundsException"
        · rw [if_pos g1] at hz'
          rcases hx1 with h | ⟨hc, hk⟩
          · rw [h] at hz'; cases hz'
          · exact fin k1 hp1 hz' (by rw [g1]; exact hc) hk
        · rw [if_neg g1] at hz'
          by_cases g2 : E = "java/lang/IllegalArgumentException"
          · rw [if_pos g2] at hz'
            rcases hx2 with h | ⟨hc, hk⟩
            · rw [h] at hz'; cases hz'
            · exact fin k2 hp2 hz' (by rw [g2]; exact hc) hk
          · rw [if_neg g2] at hz'; cases hz'
/-- what a called method with handlers is -/
def MIX (y : MethodName) (bytes : ByteArray) (maxL n : Nat) (ret : Option FieldType) (hh : List (Nat × Nat × Nat × Nat)) : Prop := Cond.codeWith y bytes maxL ret hh ∈ TB ∧ Cond.initialized y.cls ∈ TB ∧ (y.cls ≠ "java/lang/invoke/MethodHandle" ∧ y.cls ≠ "java/lang/invoke/VarHandle") ∧ (parseMethodDescriptor y.desc).map (fun d => d.parameters.length) = some n ∧ maxL ≤ 45
theorem runSX {y : MethodName} {bytes : ByteArray} {maxL n index d' kc' ks' : Nat} {ret' : Option FieldType} {h2 : List (Nat × Nat × Nat × Nat)} {As : List Value} {st0 : List Value} {wc : aW} {P : aO → aW → Prop} (dg : decode cc pc = .ok (.invokestatic index, 3)) (hm : MIX y bytes maxL n ret' h2) (hi : Cond.static y ∈ TB) (hl : Cond.methodLink own index y ∈ TB) (hd : d' + 1 ≤ d) (hn : As.length = n) (hst : (st.map fun v => v.category).sum ≤ 8) (hst0 : st0 = As.reverse ++ st) :
    RunOf own cc nL d pc index y (.codeWith y bytes maxL ret' h2) d' kc' ks' As st st0 ws wc P := by
  subst hst0
  intro p l e R s m args below meth c D TY A H locs cells slots ls is hx hb hml hown hts hlt hA hK hZ hd1 hd2 hc1 hc2 hP hD hS hls hnd hC hok
  obtain ⟨hbl, hpc, hF⟩ := pc_of (As := As) (p := p) (l := l) (m := m) (args := args) (meth := meth) (c := c) hK hZ hP hD hS hA hnd hC
  obtain ⟨m1, m2, m3, m4, m5⟩ := hm
  refine vx_runSX (hh := h2) (bytes := bytes) (maxL := maxL) (ret := ret') (cc := cc) (nL := nL) (Ts := TB) ⟨hx, hb, hml, hown, hts⟩ (hok l D TY H.size hlt) ⟨⟨rfl, rfl, by show d' + 1 ≤ R.frames; omega, by show 8 + (maxL + 11) + 64 * d' ≤ R.locals; omega, ws_stay hts m1, List.mem_cons_self⟩, hts _ m1, hts _ m2, m3, fun sig h => ?_, hts _ hl, hts _ hi⟩ ⟨hbl, hpc⟩ rfl hn hls rfl (lv_room hst) dg ⟨hc1, hc2⟩
  rw [h] at m4
  exact (Option.some.inj m4).symm
/-- the contract of a method with handlers -/
theorem ok_ofH {y : MethodName} {bytes : ByteArray} {args : List Value} {x : T} (hy : plainName y.cls = true) (hlen : (lg_sl args).length ≤ nL) (hox : o = some x) (K : AW y.cls y.name bytes nL ret hh (fun _ _ => True) d post kc ks o 0 (lv_args 0 args) [] ws) : OkM y (.codeWith y bytes nL ret hh) d kc ks args ws (post x) := by
  intro l D TY sz hlt
  refine vx_ofWH (cc := bytes) (maxL := nL) (ret := ret) (hh := hh) hy rfl ?_
  intro p e s m args' below meth c s₁ B hml hv
  obtain ⟨rfl, hsz, hP, hK, hD0, hZ⟩ := hv
  subst hsz
  have hts := atoms_spec (ws := Cond.codeWith y bytes nL ret hh :: TB) B.pre
  have hD := hD0.self (sz := s.heap.size)
  have hl := lv_entry args (n := nL) hlen
  rw [lg_entry_eq]
  have hnm : meth.name = y.name := (name_of_methodNamed B.named B.method).1
  have het : c.exceptionTable.toList = tableOf hh := vx_table (x := y) B (hts _ List.mem_cons_self)
  exact K x hox p l e _ s m args.toArray below meth c D TY (va_A (re TY ws) s.heap.size) s.heap [] 0 0 kc ks _ ⟨B.exec, B.bytes, hml, B.returns, findClass_of_methodNamed B.named, fun w h => hts w (List.mem_cons_of_mem _ h), B.notSynchronized, hnm, het, hlt, trivial, fun q h => Or.inr h⟩ hK hZ (Nat.le_refl _) (Nat.le_refl _) (Nat.le_refl _) (Nat.le_refl _) (by omega) (by omega) hP hD va_S.rf hl
/-- the script: the ints xs of the cell b, which nobody writes -/
def XS (b L : Nat) (xs : Nat → Int32) : aX := fun s A => va_X b L xs s s.heap ∧ b < s.heap.size ∧ ¬ A b
theorem aw_slen {b L : Nat} {xs : Nat → Int32} (dg : decode cc pc = .ok (.arraylength, 1)) (hq : pc + 1 = q) (K : AW own nm cc nL ret hh (XS b L xs) d post kc ks o q lv (.int (Int32.ofNat L) :: st) ws) : AW own nm cc nL ret hh (XS b L xs) d post kc ks o pc lv (.ref b :: st) ws := by
  subst hq
  intro z hz p l e R s m args below meth c D TY A H locs cells slots mc ms ls C hK hZ hd1 hd2 hc1 hc2 hc3 hc4 hP hD hS hl0
  obtain ⟨x1, x2, x3⟩ := C.2.2.2.2.2.2.2.2.2.2.1
  exact va_slen C.1 C.2.1 x1 x2 x3 hS dg (K z hz p l e R s m args below meth c D TY A H locs cells slots mc ms ls C hK hZ hd1 hd2 hc1 hc2 hc3 hc4 hP hD hS hl0)
theorem aw_sld {b L : Nat} {xs : Nat → Int32} {i : Int32} [dec : Decidable (i < 0 ∨ L ≤ i.toNatClampNeg)] (dg : decode cc pc = .ok (.iaload, 1)) (hq : pc + 1 = q) (K : AW own nm cc nL ret hh (XS b L xs) d post kc ks o q lv (.int (xs i.toNatClampNeg) :: st) ws) : AW own nm cc nL ret hh (XS b L xs) d post kc ks (if i < 0 ∨ L ≤ i.toNatClampNeg then none else o) pc lv (.int i :: .ref b :: st) ws := by
  subst hq
  intro z hz p l e R s m args below meth c D TY A H locs cells slots mc ms ls C hK hZ hd1 hd2 hc1 hc2 hc3 hc4 hP hD hS hl0
  obtain ⟨x1, x2, x3⟩ := C.2.2.2.2.2.2.2.2.2.2.1
  by_cases h9 : i < 0 ∨ L ≤ i.toNatClampNeg
  · rw [if_pos h9] at hz; cases hz
  · rw [if_neg h9] at hz
    exact va_sld C.1 C.2.1 x1 x2 x3 hS h9 dg (K z hz p l e R s m args below meth c D TY A H locs cells slots mc ms ls C hK hZ hd1 hd2 hc1 hc2 hc3 hc4 hP hD hS hl0)
end AWL
/-! ===== the states ===== -/
/-- the class's contents: memories (size, worths), ledgers (rule, size, worths), desks, counts, the series, the walker, the spare way -/
abbrev CS : Type := (Nat → Int32 × (Nat → Int32)) × (Nat → Int32 × Int32 × (Nat → Int32)) × (Nat → Nat → Int32) × (Nat → Int32) × (Nat → Int32) × (Nat → Int32) × (Nat → Int32)
/-- the reference's: memories, ledgers, desks, tallies, calls, thrown -/
abbrev MS : Type := (Nat → Nat → Int32) × (Nat → Nat → Int32) × (Nat → Nat → Int32) × (Nat → Int32) × (Nat → Int32) × Int32
def upm {α : Type} (f : Nat → α) (n : Nat) (v : α) : Nat → α := fun i => if i = n then v else f i
def rf3 (r : Nat → Nat) (o s n : Nat) : Nat → Option Nat := fun i => if i < n then some (r (o + s * i)) else none
/-- an index in its range, or 0 -/
def ix (n : Nat) (p : Int32) : Nat := if p < 0 ∨ n ≤ p.toNatClampNeg then 0 else p.toNatClampNeg
theorem ix_in {n : Nat} {p : Int32} (h : ¬ (p < 0 ∨ n ≤ p.toNatClampNeg)) : ix n p = p.toNatClampNeg := if_neg h
theorem ix_lt {n : Nat} {p : Int32} (h : 0 < n) : ix n p < n := by
  unfold ix
  split
  · exact h
  · rename_i h1
    exact Nat.not_le.mp (fun h2 => h1 (Or.inr h2))
/-- two different indices -/
def jx (n : Nat) (p q : Int32) : Nat := if p < 0 ∨ n ≤ p.toNatClampNeg then (if q < 0 ∨ n ≤ q.toNatClampNeg then 2 % n else (q.toNatClampNeg + 1) % n) else p.toNatClampNeg
def kx (n : Nat) (p q : Int32) : Nat := if q < 0 ∨ n ≤ q.toNatClampNeg then (if p < 0 ∨ n ≤ p.toNatClampNeg then 1 % n else (p.toNatClampNeg + 1) % n) else q.toNatClampNeg
theorem jx_in {n : Nat} {p q : Int32} (h : ¬ (p < 0 ∨ n ≤ p.toNatClampNeg)) : jx n p q = p.toNatClampNeg := if_neg h
theorem kx_in {n : Nat} {p q : Int32} (h : ¬ (q < 0 ∨ n ≤ q.toNatClampNeg)) : kx n p q = q.toNatClampNeg := if_neg h
theorem clamp_inj {p q : Int32} (hp : ¬ p < 0) (hq : ¬ q < 0) (h : p.toNatClampNeg = q.toNatClampNeg) : p = q := by
  have h1 : 0 ≤ p.toInt := by have := Int32.not_lt.mp hp; rwa [Int32.le_iff_toInt_le] at this
  have h2 : 0 ≤ q.toInt := by have := Int32.not_lt.mp hq; rwa [Int32.le_iff_toInt_le] at this
  have e1 : p.toNatClampNeg = p.toInt.toNat := rfl
  have e2 : q.toNatClampNeg = q.toInt.toNat := rfl
  rw [e1, e2] at h
  exact Int32.toInt_inj.mp (by omega)
theorem jk3 {p q : Int32} (h : p ≠ q) : (jx 3 p q = 0 ∧ kx 3 p q = 1) ∨ (jx 3 p q = 0 ∧ kx 3 p q = 2) ∨ (jx 3 p q = 1 ∧ kx 3 p q = 0) ∨ (jx 3 p q = 1 ∧ kx 3 p q = 2) ∨ (jx 3 p q = 2 ∧ kx 3 p q = 0) ∨ (jx 3 p q = 2 ∧ kx 3 p q = 1) := by
  have key : jx 3 p q < 3 ∧ kx 3 p q < 3 ∧ jx 3 p q ≠ kx 3 p q := by
    unfold jx kx
    by_cases hp : p < 0 ∨ 3 ≤ p.toNatClampNeg <;> by_cases hq : q < 0 ∨ 3 ≤ q.toNatClampNeg <;> simp only [hp, hq, if_true, if_false, if_pos, if_neg, not_false_eq_true] <;> (try simp only [not_or] at hp hq) <;> (try omega)
    exact ⟨by omega, by omega, fun e => h (clamp_inj hp.1 hq.1 e)⟩
  omega
theorem lt3 {n : Nat} (h : n < 3) : n = 0 ∨ n = 1 ∨ n = 2 := by omega
theorem lt2 {n : Nat} (h : n < 2) : n = 0 ∨ n = 1 := by omega
/-- the other desk -/
theorem ix_other {p : Int32} (h : ¬ ((1 : Int32) - p < 0 ∨ 2 ≤ ((1 : Int32) - p).toNatClampNeg)) : ((1 : Int32) - p).toNatClampNeg = 1 - ix 2 p := by
  simp only [not_or] at h
  obtain ⟨h1, h2⟩ := h
  have e1 : (1 : Int32) - p = 0 ∨ (1 : Int32) - p = 1 := by
    have : ((1 : Int32) - p).toNatClampNeg = 0 ∨ ((1 : Int32) - p).toNatClampNeg = 1 := by omega
    rcases this with h | h
    · exact Or.inl (clamp_inj h1 (by decide) (h.trans (by decide)))
    · exact Or.inr (clamp_inj h1 (by decide) (h.trans (by decide)))
  rcases e1 with e | e
  · have : p = 1 := by
      have h3 := Int32.sub_eq_iff_eq_add.mp e
      rw [Int32.zero_add] at h3
      exact h3.symm
    subst this
    decide
  · have : p = 0 := by
      have h3 := Int32.sub_eq_iff_eq_add.mp e
      exact Int32.add_eq_left.mp h3.symm
    subst this
    decide
def WX (r : Nat → Nat) (S : CS) : aW := [(r 0, .inr (7, [.ref (r 1), .ref (r 8), .ref (r 15), .ref (r 20), .ref (r 21), .ref (r 23), .ref (r 25)])), (r 1, .inl (1, 3, .inr (.inr (.inr (.inr (rf3 r 2 2 3)))))), (r 2, .inr (4, [.ref (r 3), .int (S.1 0).1])), (r 3, .inl (0, 2646, .inl (S.1 0).2)), (r 4, .inr (4, [.ref (r 5), .int (S.1 1).1])), (r 5, .inl (0, 2646, .inl (S.1 1).2)), (r 6, .inr (4, [.ref (r 7), .int (S.1 2).1])), (r 7, .inl (0, 2646, .inl (S.1 2).2)), (r 8, .inl (2, 3, .inr (.inr (.inr (.inr (rf3 r 9 2 3)))))), (r 9, .inr (3, [.int (S.2.1 0).1, .ref (r 10), .int (S.2.1 0).2.1])), (r 10, .inl (0, 21, .inl (S.2.1 0).2.2)), (r 11, .inr (3, [.int (S.2.1 1).1, .ref (r 12), .int (S.2.1 1).2.1])), (r 12, .inl (0, 21, .inl (S.2.1 1).2.2)), (r 13, .inr (3, [.int (S.2.1 2).1, .ref (r 14), .int (S.2.1 2).2.1])), (r 14, .inl (0, 21, .inl (S.2.1 2).2.2)), (r 15, .inl (3, 2, .inr (.inr (.inr (.inr (rf3 r 16 2 2)))))), (r 16, .inr (6, [.ref (r 17)])), (r 17, .inl (0, 21, .inl (S.2.2.1 0))), (r 18, .inr (6, [.ref (r 19)])), (r 19, .inl (0, 21, .inl (S.2.2.1 1))), (r 20, .inr (2, [.int (S.2.2.2.1 0), .int (S.2.2.2.1 1), .int (S.2.2.2.1 2), .int (S.2.2.2.1 3), .int (S.2.2.2.1 4), .int (S.2.2.2.1 5)])), (r 21, .inr (5, [.ref (r 22)])), (r 22, .inl (0, 21, .inl S.2.2.2.2.1)), (r 23, .inr (6, [.ref (r 24)])), (r 24, .inl (0, 21, .inl S.2.2.2.2.2.1)), (r 25, .inr (6, [.ref (r 26)])), (r 26, .inl (0, 21, .inl S.2.2.2.2.2.2))]
def WM (rq : Nat → Nat) (M : MS) : aW := [(rq 0, .inr (9, [.ref (rq 1), .ref (rq 5), .ref (rq 9), .ref (rq 12), .ref (rq 13), .int M.2.2.2.2.2])), (rq 1, .inl (4, 3, .inr (.inr (.inr (.inr (rf3 rq 2 1 3)))))), (rq 2, .inl (0, 6144, .inl (M.1 0))), (rq 3, .inl (0, 6144, .inl (M.1 1))), (rq 4, .inl (0, 6144, .inl (M.1 2))), (rq 5, .inl (4, 3, .inr (.inr (.inr (.inr (rf3 rq 6 1 3)))))), (rq 6, .inl (0, 21, .inl (M.2.1 0))), (rq 7, .inl (0, 21, .inl (M.2.1 1))), (rq 8, .inl (0, 21, .inl (M.2.1 2))), (rq 9, .inl (4, 2, .inr (.inr (.inr (.inr (rf3 rq 10 1 2)))))), (rq 10, .inl (0, 21, .inl (M.2.2.1 0))), (rq 11, .inl (0, 21, .inl (M.2.2.1 1))), (rq 12, .inl (0, 6, .inl M.2.2.2.1)), (rq 13, .inl (0, 441, .inl M.2.2.2.2.1))]
def OC (o : Nat) (nv : Int64) (sv : Value) : Nat × aE := (o, .inr (8, [.long nv, sv]))
def WA (r rq : Nat → Nat) (o : Nat) (S : CS) (M : MS) (nv : Int64) (sv : Value) : aW := WX r S ++ (WM rq M ++ [OC o nv sv])
theorem PX.er {U : Type} {val : U → (Nat → Nat) → Option Value} {wf : U → (Nat → Nat) → aW} {w0 : aW} {E : String} : PX val wf w0 (.inr E) (.inr E) w0 := ⟨rfl, rfl⟩
theorem PX.inl {U : Type} {val : U → (Nat → Nat) → Option Value} {wf : U → (Nat → Nat) → aW} {w0 : aW} {x : U} {o : aO} {w : aW} (h : PX val wf w0 (.inl x) o w) : ∃ g : Nat → Nat, o = .inl (val x g) ∧ w = wf x g := h
theorem PX.inr {U : Type} {val : U → (Nat → Nat) → Option Value} {wf : U → (Nat → Nat) → aW} {w0 : aW} {E : String} {o : aO} {w : aW} (h : PX val wf w0 (.inr E) o w) : o = .inr E ∧ w = w0 := h
theorem rf3_3 {r : Nat → Nat} {a s : Nat} : rf3 r a s 3 = va_up (va_up (va_up (fun _ => none) 0 (some (r (a + s * 0)))) 1 (some (r (a + s * 1)))) 2 (some (r (a + s * 2))) := by
  funext i
  match i with
  | 0 => rfl
  | 1 => rfl
  | 2 => rfl
  | i + 3 => simp [va_up, rf3]
theorem rf3_2 {r : Nat → Nat} {a s : Nat} : rf3 r a s 2 = va_up (va_up (fun _ => none) 0 (some (r (a + s * 0)))) 1 (some (r (a + s * 1))) := by
  funext i
  match i with
  | 0 => rfl
  | 1 => rfl
  | i + 2 => simp [va_up, rf3]
