section MG_02aaw
def STRS : List (String × Nat × String) := [("Sumlarder", 265, "no such desk"), ("Sumlarder", 258, "no such memory"), ("Sumlarder", 269, "out of range"), ("Sumlarder", 263, "no such rule"), ("SumlarderModel", 177, "")]
/-! ===== the abstract walk: a state of a method as data (pc, locals, stack, world), and W behind it ===== -/
def TB : List Cond := lw_tbl.filter goodWord
theorem TB_good : ∀ w ∈ TB, goodWord w = true := fun w h => (List.mem_filter.mp h).2
theorem TB_in {w : Cond} (h : w ∈ lw_tbl) (g : goodWord w = true) : w ∈ TB := List.mem_filter.mpr ⟨h, g⟩
theorem TB_tab {w : Cond} (i : Nat) (h : tables_1[i]? = some w) (g : goodWord w = true) : w ∈ TB := TB_in (List.mem_append_right _ (List.mem_of_getElem? h)) g
theorem TB_sel {w : Cond} (i : Nat) (h : (k2_sels lw_privs)[i]? = some w) (g : goodWord w = true) : w ∈ TB := TB_in (List.mem_append_left _ (List.mem_of_getElem? h)) g
theorem TB_stay {s : State} {args : Array Value} (hts : ∀ w ∈ TB, w.before args s = true) : ∀ w ∈ TB, ∀ (a' : Array Value) (U : State), s.WarmedH U.vm → w.before a' U = true := fun w hw a' U hW => word_at hW (good_of_word (TB_good w hw)) (hts w hw)
abbrev aE : Type := (Nat × vp_A) ⊕ (Nat × List Value)
abbrev aW : Type := List (Nat × aE)
def re1 (TY : Nat → ClassId) (e : aE) : va_E := match e with
  | .inl a => .inl (TY a.1, a.2)
  | .inr o => .inr o
def re (TY : Nat → ClassId) (ws : aW) : va_W := ws.map (fun q => (q.1, re1 TY q.2))
theorem re_get {TY : Nat → ClassId} {ws : aW} {k q : Nat} {e : aE} (h : ws[k]? = some (q, e)) : (re TY ws)[k]? = some (q, re1 TY e) := by
  unfold re
  rw [List.getElem?_map, h]
  rfl
theorem re_set {TY : Nat → ClassId} {ws : aW} {k q : Nat} {e : aE} : (re TY ws).set k (q, re1 TY e) = re TY (ws.set k (q, e)) := by
  unfold re
  rw [List.map_set]
theorem re_app {TY : Nat → ClassId} {a b : aW} : re TY (a ++ b) = re TY a ++ re TY b := List.map_append
theorem re_places {TY : Nat → ClassId} {ws wc : aW} {is : List Nat} (h : is.map (fun i => ws[i]?) = wc.map some) : is.map (fun i => (re TY ws)[i]?) = (re TY wc).map some := by
  have h2 : is.map (fun i => (re TY ws)[i]?) = (is.map (fun i => ws[i]?)).map (fun o => o.map (fun (q : Nat × aE) => (q.1, re1 TY q.2))) := by
    rw [List.map_map]
    refine List.map_congr_left (fun i _ => ?_)
    unfold re
    rw [List.getElem?_map]
    rfl
  rw [h2, h]
  unfold re
  rw [List.map_map, List.map_map]
  rfl
theorem re_sub {TY : Nat → ClassId} {D : va_G} {ws ws' : aW} {H : Heap} {is : List Nat} (hP : va_P D vwCl (re TY ws) H) (h' : is.map (fun i => (re TY ws)[i]?) = (re TY ws').map some) : va_P D vwCl (re TY ws') H := by
  intro k z hk
  have h1 : (is.map (fun i => (re TY ws)[i]?))[k]? = some (some z) := by rw [h', List.getElem?_map, hk]; rfl
  rw [List.getElem?_map] at h1
  cases hi : is[k]? with
  | none => rw [hi] at h1; cases h1
  | some i => rw [hi] at h1; exact hP i z (Option.some.inj h1)
def tyAt : Nat → FieldType := fun k => match k with
  | 0 => .int
  | 1 => .object "Sumlarder$Memory"
  | 2 => .object "Sumlarder$Ledger"
  | 3 => .object "Sumlarder$Way"
  | 4 => .array .int
  | _ => .byte
def tysOf (TY : Nat → ClassId) : List (ClassId × FieldType) := [(TY 0, tyAt 0), (TY 1, tyAt 1), (TY 2, tyAt 2), (TY 3, tyAt 3), (TY 4, tyAt 4), (TY 5, tyAt 5)]
def ngw : Cond → Bool
  | .declares _ => true
  | .castable _ _ => true
  | .fieldLinkNest .. => true
  | .methodLinkNest .. => true
  | .privateMethod _ => true
  | _ => false
def NGW : List Cond := tables_1.filter ngw
theorem NGW_tab {w : Cond} (i : Nat) (h : tables_1[i]? = some w) (g : ngw w = true) : w ∈ NGW := List.mem_filter.mpr ⟨List.mem_of_getElem? h, g⟩
theorem TBm_1 {w : Cond} (i : Nat) (h : tables_1_1[i]? = some w) (g : goodWord w = true) : w ∈ TB := TB_in (List.mem_append_right _ (List.mem_append_left _ (List.mem_of_getElem? h))) g
theorem NGm_1 {w : Cond} (i : Nat) (h : tables_1_1[i]? = some w) (g : ngw w = true) : w ∈ NGW := List.mem_filter.mpr ⟨(List.mem_append_left _ (List.mem_of_getElem? h)), g⟩
theorem TBm_2 {w : Cond} (i : Nat) (h : tables_1_2[i]? = some w) (g : goodWord w = true) : w ∈ TB := TB_in (List.mem_append_right _ (List.mem_append_right _ (List.mem_append_left _ (List.mem_of_getElem? h)))) g
theorem NGm_2 {w : Cond} (i : Nat) (h : tables_1_2[i]? = some w) (g : ngw w = true) : w ∈ NGW := List.mem_filter.mpr ⟨(List.mem_append_right _ (List.mem_append_left _ (List.mem_of_getElem? h))), g⟩
theorem TBm_3 {w : Cond} (i : Nat) (h : tables_1_3[i]? = some w) (g : goodWord w = true) : w ∈ TB := TB_in (List.mem_append_right _ (List.mem_append_right _ (List.mem_append_right _ (List.mem_append_left _ (List.mem_of_getElem? h))))) g
theorem NGm_3 {w : Cond} (i : Nat) (h : tables_1_3[i]? = some w) (g : ngw w = true) : w ∈ NGW := List.mem_filter.mpr ⟨(List.mem_append_right _ (List.mem_append_right _ (List.mem_append_left _ (List.mem_of_getElem? h)))), g⟩
theorem TBm_4 {w : Cond} (i : Nat) (h : tables_1_4[i]? = some w) (g : goodWord w = true) : w ∈ TB := TB_in (List.mem_append_right _ (List.mem_append_right _ (List.mem_append_right _ (List.mem_append_right _ (List.mem_append_left _ (List.mem_of_getElem? h)))))) g
theorem NGm_4 {w : Cond} (i : Nat) (h : tables_1_4[i]? = some w) (g : ngw w = true) : w ∈ NGW := List.mem_filter.mpr ⟨(List.mem_append_right _ (List.mem_append_right _ (List.mem_append_right _ (List.mem_append_left _ (List.mem_of_getElem? h))))), g⟩
theorem TBm_5 {w : Cond} (i : Nat) (h : tables_1_5[i]? = some w) (g : goodWord w = true) : w ∈ TB := TB_in (List.mem_append_right _ (List.mem_append_right _ (List.mem_append_right _ (List.mem_append_right _ (List.mem_append_right _ (List.mem_append_left _ (List.mem_of_getElem? h))))))) g
theorem NGm_5 {w : Cond} (i : Nat) (h : tables_1_5[i]? = some w) (g : ngw w = true) : w ∈ NGW := List.mem_filter.mpr ⟨(List.mem_append_right _ (List.mem_append_right _ (List.mem_append_right _ (List.mem_append_right _ (List.mem_append_left _ (List.mem_of_getElem? h)))))), g⟩
theorem TBm_6 {w : Cond} (i : Nat) (h : tables_1_6[i]? = some w) (g : goodWord w = true) : w ∈ TB := TB_in (List.mem_append_right _ (List.mem_append_right _ (List.mem_append_right _ (List.mem_append_right _ (List.mem_append_right _ (List.mem_append_right _ (List.mem_append_left _ (List.mem_of_getElem? h)))))))) g
theorem NGm_6 {w : Cond} (i : Nat) (h : tables_1_6[i]? = some w) (g : ngw w = true) : w ∈ NGW := List.mem_filter.mpr ⟨(List.mem_append_right _ (List.mem_append_right _ (List.mem_append_right _ (List.mem_append_right _ (List.mem_append_right _ (List.mem_append_left _ (List.mem_of_getElem? h))))))), g⟩
theorem TBm_7 {w : Cond} (i : Nat) (h : tables_1_7[i]? = some w) (g : goodWord w = true) : w ∈ TB := TB_in (List.mem_append_right _ (List.mem_append_right _ (List.mem_append_right _ (List.mem_append_right _ (List.mem_append_right _ (List.mem_append_right _ (List.mem_append_right _ (List.mem_of_getElem? h)))))))) g
theorem NGm_7 {w : Cond} (i : Nat) (h : tables_1_7[i]? = some w) (g : ngw w = true) : w ∈ NGW := List.mem_filter.mpr ⟨(List.mem_append_right _ (List.mem_append_right _ (List.mem_append_right _ (List.mem_append_right _ (List.mem_append_right _ (List.mem_append_right _ (List.mem_of_getElem? h))))))), g⟩
theorem ngw_tabs {w : Cond} (g : ngw w = true) : w.onTables = true := by cases w <;> first | rfl | (simp [ngw] at g)
theorem NGW_use {w : Cond} {A : Array Value} {U : State} (h : w ∈ NGW) (hZ : va_Nw w U) : w.before A U = true := va_Nw.use (ngw_tabs (List.mem_filter.mp h).2) hZ
theorem ngw_warm {w : Cond} {s U : State} (g : ngw w = true) (hW : s.WarmedH U.vm) (h : va_Nw w s) : va_Nw w U := by
  cases w <;> first | exact va_Nw.warmD hW h | exact va_Nw.warmC hW h | exact va_Nw.warmF hW h | exact va_Nw.warmM hW h | exact Cond.privateMethod_warm hW h | (simp [ngw] at g)
def TABS : List (String × (Nat → Int32)) := [("DigitOnes", fun j => Int32.ofNat (48 + j % 10)), ("DigitTens", fun j => Int32.ofNat (48 + j / 10))]
def AOS : List String := ["Sumlarder$Memory", "Sumlarder$Ledger", "Sumlarder$Way"]
/-- what stands outside all worlds: the two statics of a throw, String.COMPACT_STRINGS, the texts, words that aren't good ones -/
def ZF (A : Nat → Prop) (U : State) (H : Heap) : Prop := vx_Zq Bundle.tN "UNASSIGNED_STACK" Bundle.steD A U H ∧ vx_Zq Bundle.tN "SUPPRESSED_SENTINEL" Bundle.listD A U H ∧ va_Z "java/lang/String" "COMPACT_STRINGS" "Z" (.int 1) A U H ∧ (∀ q ∈ STRS, ∃ a : Nat, vk_R q.1 q.2.1 q.2.2 a U) ∧ (∀ C ∈ AOS, va_AO C U) ∧ (∀ w ∈ NGW, va_Nw w U) ∧ va_AOA .int U ∧ va_Nc "java/lang/IllegalArgumentException" "java/lang/IndexOutOfBoundsException" U ∧ ∀ q ∈ TABS, ∃ t : Nat, va_Z "java/lang/Integer" q.1 "[B" (.ref t) A U H ∧ va_T .byte t 100 (fun j => .int (q.2 j)) A U H
theorem ZF.to {A A' : Nat → Prop} {s U : State} {H H' : Heap} (h : ZF A s H) (hk : ∀ a : Nat, a < H.size → ¬ A a → H'[a]? = H[a]?) (hW : s.WarmedH U.vm) (hA : ∀ q, A' q → A q) : ZF A' U H' := by
  obtain ⟨h1, h2, h3, h4, h5, h6, h7, h8, h9⟩ := h
  exact ⟨vx_Zq.moved hW.alike ((vx_Zq.kept h1 hk).narrow hA), vx_Zq.moved hW.alike ((vx_Zq.kept h2 hk).narrow hA), va_Z.moved hW.alike ((va_Z.kept h3 hk).narrow hA), fun q hq => by obtain ⟨a, ha⟩ := h4 q hq; exact ⟨a, vk_R.warm hW ha⟩, fun C hC => (h5 C hC).moved hW.alike, fun w hw => ngw_warm (List.mem_filter.mp hw).2 hW (h6 w hw), h7.moved hW.alike, h8.moved hW.alike, fun q hq => by obtain ⟨t, t1, t2⟩ := h9 q hq; exact ⟨t, va_Z.moved hW.alike ((va_Z.kept t1 hk).narrow hA), va_T.moved hW.alike ((va_T.kept t2 hk).narrow hA)⟩⟩
theorem ZF.calling {A : Nat → Prop} {U : State} {g : JFrame} {mk : MethodId} {a : Array Value} (h : ZF A U U.heap) : ZF A (U.calling g mk a) (U.calling g mk a).heap := ZF.to h (fun _ _ _ => rfl) (State.WarmedH.refl U) (fun _ h => h)
theorem ZF.call {A A' : Nat → Prop} {s U : State} {H : Heap} {locs : List Loc} (h : ZF A s s.heap) (hS : va_S A s.heap H locs) (hU : U.heap = H) (hW : s.WarmedH U.vm) (hA : ∀ q, A' q → A q) : ZF A' U U.heap := by
  rw [hU]
  exact ZF.to h hS.2.1 hW hA
/-- a method's end: it returned v, or threw E, in the world ws -/
abbrev aO : Type := Option Value ⊕ String
def QC (D : va_G) (TY : Nat → ClassId) (A : Nat → Prop) (P : aO → aW → Prop) : Array Value → State → Outcome → State → Prop := fun _ st oc t => (∃ (v : Option Value) (w : aW), oc = .returned v ∧ P (.inl v) w ∧ va_P D vwCl (re TY w) t.heap ∧ va_D A (re TY w)) ∧ va_F A st t
def XC (D : va_G) (TY : Nat → ClassId) (A : Nat → Prop) (P : aO → aW → Prop) : String → State → State → Prop := fun E st t => (∃ w : aW, P (.inr E) w ∧ va_P D vwCl (re TY w) t.heap ∧ va_D A (re TY w)) ∧ va_F A st t
/-- THE CONTRACT: called with args in the world ws, y ends as P says; d frames below it, kc cells of ks slots -/
def OkM (y : MethodName) (w0 : Cond) (d kc ks : Nat) (args : List Value) (ws : aW) (P : aO → aW → Prop) : Prop :=
  ∀ (l : Launch) (D : va_G) (TY : Nat → ClassId) (sz : Nat), l.stackTraces = false →
    vx_Met l y (w0 :: TB) { frames := d, cells := kc, slots := ks, locals := 64 * d } (va_Pc args (fun U => U.heap.size = sz ∧ va_P D vwCl (re TY ws) U.heap ∧ va_K D vwCl (tysOf TY) U ∧ va_D (fun _ => True) (re TY ws) ∧ ZF (va_A (re TY ws) sz) U U.heap)) (QC D TY (va_A (re TY ws) sz) P) (XC D TY (va_A (re TY ws) sz) P) kc ks (va_A (re TY ws) sz)
/-- what else may be said of the start (the law's script) -/
abbrev aX : Type := State → (Nat → Prop) → Prop
def Cx (own nm : String) (cc : ByteArray) (nL : Nat) (ret : Option FieldType) (hh : List (Nat × Nat × Nat × Nat)) (X : aX) (p : Program) (l : Launch) (s : State) (m : MethodId) (args : Array Value) (meth : Method) (c : Code) (A : Nat → Prop) : Prop :=
  p.tables.exec = Jvm.exec ∧ c.code = cc ∧ c.maxLocals = nL ∧ meth.sig.returnType = ret ∧ s.vm.findClass own = some m.cls ∧ (∀ w ∈ TB, w.before args s = true) ∧ meth.locks = false ∧ meth.name = nm ∧ c.exceptionTable.toList = tableOf hh ∧ l.stackTraces = false ∧ X s A ∧ ∀ q : Nat, s.heap.size ≤ q → A q
/-- THE WALK: from pc, with these locals, this stack, in this world, the method ends as 'post x' says, if the pure value o is x -/
def AW (own nm : String) (cc : ByteArray) (nL : Nat) (ret : Option FieldType) (hh : List (Nat × Nat × Nat × Nat)) (X : aX) (d : Nat) {T : Type} (post : T → aO → aW → Prop) (kc ks : Nat) (o : Option T) (pc : Nat) (lv : List (Nat × Value)) (st : List Value) (ws : aW) : Prop :=
  ∀ (x : T), o = some x → ∀ (p : Program) (l : Launch) (e : Env) (R : Room) (s : State) (m : MethodId) (args : Array Value) (below : List Frame) (meth : Method) (c : Code) (D : va_G) (TY : Nat → ClassId) (A : Nat → Prop) (H : Heap) (locs : List Loc) (cells slots mc ms : Nat) (ls : Array Slot),
    Cx own nm cc nL ret hh X p l s m args meth c A → va_K D vwCl (tysOf TY) s → ZF A s s.heap → d ≤ R.frames → 64 * d ≤ R.locals → mc ≤ R.cells → ms ≤ R.slots → cells + kc ≤ mc → slots + ks ≤ ms →
    va_P D vwCl (re TY ws) H → va_D A (re TY ws) → va_S A s.heap H locs → lv_has ls nL lv →
    W p l e R s m args below meth c H locs cells slots (vx_MQ below (QC D TY A (post x)) (XC D TY A (post x)) args s mc ms A) (F0 m pc ls st)
section AWR
variable {own nm : String} {cc : ByteArray} {nL : Nat} {ret : Option FieldType} {hh : List (Nat × Nat × Nat × Nat)} {X : aX} {d : Nat} {T : Type} {post : T → aO → aW → Prop} {kc ks : Nat} {o : Option T} {pc q : Nat} {lv lv' : List (Nat × Value)} {st : List Value} {ws : aW}
theorem aw_none : AW own nm cc nL ret hh X d post kc ks (none : Option T) pc lv st ws := fun x h => by cases h
theorem aw_locals (is : List Nat) (hl : lv_pick lv is = lv') (K : AW own nm cc nL ret hh X d post kc ks o pc lv' st ws) : AW own nm cc nL ret hh X d post kc ks o pc lv st ws := by
  intro x hx p l e R s m args below meth c D TY A H locs cells slots mc ms ls C hK hZ hd1 hd2 hc1 hc2 hc3 hc4 hP hD hS hl0
  exact K x hx p l e R s m args below meth c D TY A H locs cells slots mc ms ls C hK hZ hd1 hd2 hc1 hc2 hc3 hc4 hP hD hS (lv_sub hl0 is hl)
/-- fewer cells, or in another order -/
theorem aw_world {ws' : aW} (is : List Nat) (hn : va_nd is = true) (h : is.map (fun i => ws[i]?) = ws'.map some) (K : AW own nm cc nL ret hh X d post kc ks o pc lv st ws') : AW own nm cc nL ret hh X d post kc ks o pc lv st ws := by
  intro x hx p l e R s m args below meth c D TY A H locs cells slots mc ms ls C hK hZ hd1 hd2 hc1 hc2 hc3 hc4 hP hD hS hl0
  have h' := re_places (TY := TY) h
  refine K x hx p l e R s m args below meth c D TY A H locs cells slots mc ms ls C hK hZ hd1 hd2 hc1 hc2 hc3 hc4 (re_sub hP h') (hD.sub is hn h') hS hl0
theorem aw_room {kc' ks' : Nat} (h1 : kc' ≤ kc) (h2 : ks' ≤ ks) (K : AW own nm cc nL ret hh X d post kc' ks' o pc lv st ws) : AW own nm cc nL ret hh X d post kc ks o pc lv st ws := by
  intro x hx p l e R s m args below meth c D TY A H locs cells slots mc ms ls C hK hZ hd1 hd2 hc1 hc2 hc3 hc4 hP hD hS hl0
  exact K x hx p l e R s m args below meth c D TY A H locs cells slots mc ms ls C hK hZ hd1 hd2 hc1 hc2 (by omega) (by omega) hP hD hS hl0
end AWR

end MG_02aaw
section MG_02baw
section AWR
variable {own nm : String} {cc : ByteArray} {nL : Nat} {ret : Option FieldType} {hh : List (Nat × Nat × Nat × Nat)} {X : aX} {d : Nat} {T : Type} {post : T → aO → aW → Prop} {kc ks : Nat} {o : Option T} {pc q : Nat} {lv lv' : List (Nat × Value)} {st : List Value} {ws : aW}
theorem aw_iconst {n : Int} {v : Int32} (dg : decode cc pc = .ok (.iconst n, 1)) (hq : pc + 1 = q) (hv : Int32.ofInt n = v) (K : AW own nm cc nL ret hh X d post kc ks o q lv (.int v :: st) ws) : AW own nm cc nL ret hh X d post kc ks o pc lv st ws := by
  subst hq
  intro z hz p l e R s m args below meth c D TY A H locs cells slots mc ms ls C hK hZ hd1 hd2 hc1 hc2 hc3 hc4 hP hD hS hl0
  exact lv_iconst C.1 C.2.1 dg hv (K z hz p l e R s m args below meth c D TY A H locs cells slots mc ms ls C hK hZ hd1 hd2 hc1 hc2 hc3 hc4 hP hD hS hl0)
theorem aw_bipush {n : Int} {v : Int32} (dg : decode cc pc = .ok (.bipush n, 2)) (hq : pc + 2 = q) (hv : (Int8.ofInt n).toInt32 = v) (K : AW own nm cc nL ret hh X d post kc ks o q lv (.int v :: st) ws) : AW own nm cc nL ret hh X d post kc ks o pc lv st ws := by
  subst hq
  intro z hz p l e R s m args below meth c D TY A H locs cells slots mc ms ls C hK hZ hd1 hd2 hc1 hc2 hc3 hc4 hP hD hS hl0
  exact lv_bipush C.1 C.2.1 dg hv (K z hz p l e R s m args below meth c D TY A H locs cells slots mc ms ls C hK hZ hd1 hd2 hc1 hc2 hc3 hc4 hP hD hS hl0)
theorem aw_sipush {n : Int} {v : Int32} (dg : decode cc pc = .ok (.sipush n, 3)) (hq : pc + 3 = q) (hv : (Int16.ofInt n).toInt32 = v) (K : AW own nm cc nL ret hh X d post kc ks o q lv (.int v :: st) ws) : AW own nm cc nL ret hh X d post kc ks o pc lv st ws := by
  subst hq
  intro z hz p l e R s m args below meth c D TY A H locs cells slots mc ms ls C hK hZ hd1 hd2 hc1 hc2 hc3 hc4 hP hD hS hl0
  exact lv_sipush C.1 C.2.1 dg hv (K z hz p l e R s m args below meth c D TY A H locs cells slots mc ms ls C hK hZ hd1 hd2 hc1 hc2 hc3 hc4 hP hD hS hl0)
theorem aw_lconst {n : Fin 2} {v : Int64} (dg : decode cc pc = .ok (.lconst n, 1)) (hq : pc + 1 = q) (hv : Int64.ofNat (n : Nat) = v) (K : AW own nm cc nL ret hh X d post kc ks o q lv (.long v :: st) ws) : AW own nm cc nL ret hh X d post kc ks o pc lv st ws := by
  subst hq
  intro z hz p l e R s m args below meth c D TY A H locs cells slots mc ms ls C hK hZ hd1 hd2 hc1 hc2 hc3 hc4 hP hD hS hl0
  exact lv_lconst C.1 C.2.1 dg hv (K z hz p l e R s m args below meth c D TY A H locs cells slots mc ms ls C hK hZ hd1 hd2 hc1 hc2 hc3 hc4 hP hD hS hl0)
theorem aw_iload_n {k : Fin 4} {x : Int32} (dg : decode cc pc = .ok (.iload_n k, 1)) (hq : pc + 1 = q) (j : Nat) (hl : lv[j]? = some ((k : Nat), .int x)) (K : AW own nm cc nL ret hh X d post kc ks o q lv (.int x :: st) ws) : AW own nm cc nL ret hh X d post kc ks o pc lv st ws := by
  subst hq
  intro z hz p l e R s m args below meth c D TY A H locs cells slots mc ms ls C hK hZ hd1 hd2 hc1 hc2 hc3 hc4 hP hD hS hl0
  exact lv_iload_n C.1 C.2.1 dg rfl (lv_at hl0 j hl) (K z hz p l e R s m args below meth c D TY A H locs cells slots mc ms ls C hK hZ hd1 hd2 hc1 hc2 hc3 hc4 hP hD hS hl0)
theorem aw_iload {i : Nat} {x : Int32} (dg : decode cc pc = .ok (.iload i, 2)) (hq : pc + 2 = q) (j : Nat) (hl : lv[j]? = some (i, .int x)) (K : AW own nm cc nL ret hh X d post kc ks o q lv (.int x :: st) ws) : AW own nm cc nL ret hh X d post kc ks o pc lv st ws := by
  subst hq
  intro z hz p l e R s m args below meth c D TY A H locs cells slots mc ms ls C hK hZ hd1 hd2 hc1 hc2 hc3 hc4 hP hD hS hl0
  exact lv_iload C.1 C.2.1 dg (lv_at hl0 j hl) (K z hz p l e R s m args below meth c D TY A H locs cells slots mc ms ls C hK hZ hd1 hd2 hc1 hc2 hc3 hc4 hP hD hS hl0)
theorem aw_istore_n {k : Fin 4} {x : Int32} (dg : decode cc pc = .ok (.istore_n k, 1)) (hq : pc + 1 = q) (hn : (k : Nat) < nL) (hl : ((k : Nat), Value.int x) :: lv.filter (fun q => !(q.1 == (k : Nat)) && !(q.1 + 1 == (k : Nat) && q.2.category == 2)) = lv') (K : AW own nm cc nL ret hh X d post kc ks o q lv' st ws) : AW own nm cc nL ret hh X d post kc ks o pc lv (.int x :: st) ws := by
  subst hq
  intro z hz p l e R s m args below meth c D TY A H locs cells slots mc ms ls C hK hZ hd1 hd2 hc1 hc2 hc3 hc4 hP hD hS hl0
  exact lv_istore_n C.1 C.2.1 dg rfl hl0 hn hl (fun ls1 hl1 => K z hz p l e R s m args below meth c D TY A H locs cells slots mc ms ls1 C hK hZ hd1 hd2 hc1 hc2 hc3 hc4 hP hD hS hl1)
theorem aw_istore {i : Nat} {x : Int32} (dg : decode cc pc = .ok (.istore i, 2)) (hq : pc + 2 = q) (hn : i < nL) (hl : (i, Value.int x) :: lv.filter (fun q => !(q.1 == i) && !(q.1 + 1 == i && q.2.category == 2)) = lv') (K : AW own nm cc nL ret hh X d post kc ks o q lv' st ws) : AW own nm cc nL ret hh X d post kc ks o pc lv (.int x :: st) ws := by
  subst hq
  intro z hz p l e R s m args below meth c D TY A H locs cells slots mc ms ls C hK hZ hd1 hd2 hc1 hc2 hc3 hc4 hP hD hS hl0
  exact lv_istore C.1 C.2.1 dg hl0 hn hl (fun ls1 hl1 => K z hz p l e R s m args below meth c D TY A H locs cells slots mc ms ls1 C hK hZ hd1 hd2 hc1 hc2 hc3 hc4 hP hD hS hl1)
theorem aw_lload_n {k : Fin 4} {x : Int64} (dg : decode cc pc = .ok (.lload_n k, 1)) (hq : pc + 1 = q) (j : Nat) (hl : lv[j]? = some ((k : Nat), .long x)) (K : AW own nm cc nL ret hh X d post kc ks o q lv (.long x :: st) ws) : AW own nm cc nL ret hh X d post kc ks o pc lv st ws := by
  subst hq
  intro z hz p l e R s m args below meth c D TY A H locs cells slots mc ms ls C hK hZ hd1 hd2 hc1 hc2 hc3 hc4 hP hD hS hl0
  exact lv_lload_n C.1 C.2.1 dg rfl (lv_at hl0 j hl) (K z hz p l e R s m args below meth c D TY A H locs cells slots mc ms ls C hK hZ hd1 hd2 hc1 hc2 hc3 hc4 hP hD hS hl0)
theorem aw_lload {i : Nat} {x : Int64} (dg : decode cc pc = .ok (.lload i, 2)) (hq : pc + 2 = q) (j : Nat) (hl : lv[j]? = some (i, .long x)) (K : AW own nm cc nL ret hh X d post kc ks o q lv (.long x :: st) ws) : AW own nm cc nL ret hh X d post kc ks o pc lv st ws := by
  subst hq
  intro z hz p l e R s m args below meth c D TY A H locs cells slots mc ms ls C hK hZ hd1 hd2 hc1 hc2 hc3 hc4 hP hD hS hl0
  exact lv_lload C.1 C.2.1 dg (lv_at hl0 j hl) (K z hz p l e R s m args below meth c D TY A H locs cells slots mc ms ls C hK hZ hd1 hd2 hc1 hc2 hc3 hc4 hP hD hS hl0)
theorem aw_lstore_n {k : Fin 4} {x : Int64} (dg : decode cc pc = .ok (.lstore_n k, 1)) (hq : pc + 1 = q) (hn : (k : Nat) + 1 < nL) (hl : ((k : Nat), Value.long x) :: lv.filter (fun q => !(q.1 == (k : Nat)) && (!(q.1 == (k : Nat) + 1) && !(q.1 + 1 == (k : Nat) && q.2.category == 2))) = lv') (K : AW own nm cc nL ret hh X d post kc ks o q lv' st ws) : AW own nm cc nL ret hh X d post kc ks o pc lv (.long x :: st) ws := by
  subst hq
  intro z hz p l e R s m args below meth c D TY A H locs cells slots mc ms ls C hK hZ hd1 hd2 hc1 hc2 hc3 hc4 hP hD hS hl0
  exact lv_lstore_n C.1 C.2.1 dg rfl hl0 hn hl (fun ls1 hl1 => K z hz p l e R s m args below meth c D TY A H locs cells slots mc ms ls1 C hK hZ hd1 hd2 hc1 hc2 hc3 hc4 hP hD hS hl1)
theorem aw_lstore {i : Nat} {x : Int64} (dg : decode cc pc = .ok (.lstore i, 2)) (hq : pc + 2 = q) (hn : i + 1 < nL) (hl : (i, Value.long x) :: lv.filter (fun q => !(q.1 == i) && (!(q.1 == i + 1) && !(q.1 + 1 == i && q.2.category == 2))) = lv') (K : AW own nm cc nL ret hh X d post kc ks o q lv' st ws) : AW own nm cc nL ret hh X d post kc ks o pc lv (.long x :: st) ws := by
  subst hq
  intro z hz p l e R s m args below meth c D TY A H locs cells slots mc ms ls C hK hZ hd1 hd2 hc1 hc2 hc3 hc4 hP hD hS hl0
  exact lv_lstore C.1 C.2.1 dg hl0 hn hl (fun ls1 hl1 => K z hz p l e R s m args below meth c D TY A H locs cells slots mc ms ls1 C hK hZ hd1 hd2 hc1 hc2 hc3 hc4 hP hD hS hl1)
theorem aw_aload_n {k : Fin 4} {x : Nat} (dg : decode cc pc = .ok (.aload_n k, 1)) (hq : pc + 1 = q) (j : Nat) (hl : lv[j]? = some ((k : Nat), .ref x)) (K : AW own nm cc nL ret hh X d post kc ks o q lv (.ref x :: st) ws) : AW own nm cc nL ret hh X d post kc ks o pc lv st ws := by
  subst hq
  intro z hz p l e R s m args below meth c D TY A H locs cells slots mc ms ls C hK hZ hd1 hd2 hc1 hc2 hc3 hc4 hP hD hS hl0
  exact lv_aload_n C.1 C.2.1 dg rfl (lv_at hl0 j hl) (K z hz p l e R s m args below meth c D TY A H locs cells slots mc ms ls C hK hZ hd1 hd2 hc1 hc2 hc3 hc4 hP hD hS hl0)
theorem aw_aload {i : Nat} {x : Nat} (dg : decode cc pc = .ok (.aload i, 2)) (hq : pc + 2 = q) (j : Nat) (hl : lv[j]? = some (i, .ref x)) (K : AW own nm cc nL ret hh X d post kc ks o q lv (.ref x :: st) ws) : AW own nm cc nL ret hh X d post kc ks o pc lv st ws := by
  subst hq
  intro z hz p l e R s m args below meth c D TY A H locs cells slots mc ms ls C hK hZ hd1 hd2 hc1 hc2 hc3 hc4 hP hD hS hl0
  exact lv_aload C.1 C.2.1 dg (lv_at hl0 j hl) (K z hz p l e R s m args below meth c D TY A H locs cells slots mc ms ls C hK hZ hd1 hd2 hc1 hc2 hc3 hc4 hP hD hS hl0)
theorem aw_astore_n {k : Fin 4} {x : Nat} (dg : decode cc pc = .ok (.astore_n k, 1)) (hq : pc + 1 = q) (hn : (k : Nat) < nL) (hl : ((k : Nat), Value.ref x) :: lv.filter (fun q => !(q.1 == (k : Nat)) && !(q.1 + 1 == (k : Nat) && q.2.category == 2)) = lv') (K : AW own nm cc nL ret hh X d post kc ks o q lv' st ws) : AW own nm cc nL ret hh X d post kc ks o pc lv (.ref x :: st) ws := by
  subst hq
  intro z hz p l e R s m args below meth c D TY A H locs cells slots mc ms ls C hK hZ hd1 hd2 hc1 hc2 hc3 hc4 hP hD hS hl0
  exact lv_astore_n C.1 C.2.1 dg rfl hl0 hn hl (fun ls1 hl1 => K z hz p l e R s m args below meth c D TY A H locs cells slots mc ms ls1 C hK hZ hd1 hd2 hc1 hc2 hc3 hc4 hP hD hS hl1)
theorem aw_astore {i : Nat} {x : Nat} (dg : decode cc pc = .ok (.astore i, 2)) (hq : pc + 2 = q) (hn : i < nL) (hl : (i, Value.ref x) :: lv.filter (fun q => !(q.1 == i) && !(q.1 + 1 == i && q.2.category == 2)) = lv') (K : AW own nm cc nL ret hh X d post kc ks o q lv' st ws) : AW own nm cc nL ret hh X d post kc ks o pc lv (.ref x :: st) ws := by
  subst hq
  intro z hz p l e R s m args below meth c D TY A H locs cells slots mc ms ls C hK hZ hd1 hd2 hc1 hc2 hc3 hc4 hP hD hS hl0
  exact lv_astore C.1 C.2.1 dg hl0 hn hl (fun ls1 hl1 => K z hz p l e R s m args below meth c D TY A H locs cells slots mc ms ls1 C hK hZ hd1 hd2 hc1 hc2 hc3 hc4 hP hD hS hl1)
theorem aw_aload_nN {k : Fin 4} (dg : decode cc pc = .ok (.aload_n k, 1)) (hq : pc + 1 = q) (j : Nat) (hl : lv[j]? = some ((k : Nat), .null)) (K : AW own nm cc nL ret hh X d post kc ks o q lv (.null :: st) ws) : AW own nm cc nL ret hh X d post kc ks o pc lv st ws := by
  subst hq
  intro z hz p l e R s m args below meth c D TY A H locs cells slots mc ms ls C hK hZ hd1 hd2 hc1 hc2 hc3 hc4 hP hD hS hl0
  exact lv_aload_nN C.1 C.2.1 dg rfl (lv_at hl0 j hl) (K z hz p l e R s m args below meth c D TY A H locs cells slots mc ms ls C hK hZ hd1 hd2 hc1 hc2 hc3 hc4 hP hD hS hl0)
theorem aw_iinc {i : Nat} {n : Int} {x v : Int32} (dg : decode cc pc = .ok (.iinc i n, 3)) (hq : pc + 3 = q) (j : Nat) (hk : lv[j]? = some (i, .int x)) (hv : x + Int32.ofInt n = v) (hn : i < nL) (hl : (i, Value.int v) :: lv.filter (fun q => !(q.1 == i) && !(q.1 + 1 == i && q.2.category == 2)) = lv') (K : AW own nm cc nL ret hh X d post kc ks o q lv' st ws) : AW own nm cc nL ret hh X d post kc ks o pc lv st ws := by
  subst hq
  intro z hz p l e R s m args below meth c D TY A H locs cells slots mc ms ls C hK hZ hd1 hd2 hc1 hc2 hc3 hc4 hP hD hS hl0
  exact lv_iinc C.1 C.2.1 dg hl0 hk hv hn hl (fun ls1 hl1 => K z hz p l e R s m args below meth c D TY A H locs cells slots mc ms ls1 C hK hZ hd1 hd2 hc1 hc2 hc3 hc4 hP hD hS hl1)
theorem aw_iadd {x y : Int32} (dg : decode cc pc = .ok (.iadd, 1)) (hq : pc + 1 = q) (K : AW own nm cc nL ret hh X d post kc ks o q lv (.int (x + y) :: st) ws) : AW own nm cc nL ret hh X d post kc ks o pc lv (.int y :: .int x :: st) ws := by
  subst hq
  intro z hz p l e R s m args below meth c D TY A H locs cells slots mc ms ls C hK hZ hd1 hd2 hc1 hc2 hc3 hc4 hP hD hS hl0
  exact lv_iadd C.1 C.2.1 dg (K z hz p l e R s m args below meth c D TY A H locs cells slots mc ms ls C hK hZ hd1 hd2 hc1 hc2 hc3 hc4 hP hD hS hl0)
theorem aw_isub {x y : Int32} (dg : decode cc pc = .ok (.isub, 1)) (hq : pc + 1 = q) (K : AW own nm cc nL ret hh X d post kc ks o q lv (.int (x - y) :: st) ws) : AW own nm cc nL ret hh X d post kc ks o pc lv (.int y :: .int x :: st) ws := by
  subst hq
  intro z hz p l e R s m args below meth c D TY A H locs cells slots mc ms ls C hK hZ hd1 hd2 hc1 hc2 hc3 hc4 hP hD hS hl0
  exact lv_isub C.1 C.2.1 dg (K z hz p l e R s m args below meth c D TY A H locs cells slots mc ms ls C hK hZ hd1 hd2 hc1 hc2 hc3 hc4 hP hD hS hl0)
theorem aw_imul {x y : Int32} (dg : decode cc pc = .ok (.imul, 1)) (hq : pc + 1 = q) (K : AW own nm cc nL ret hh X d post kc ks o q lv (.int (x * y) :: st) ws) : AW own nm cc nL ret hh X d post kc ks o pc lv (.int y :: .int x :: st) ws := by
  subst hq
  intro z hz p l e R s m args below meth c D TY A H locs cells slots mc ms ls C hK hZ hd1 hd2 hc1 hc2 hc3 hc4 hP hD hS hl0
  exact lv_imul C.1 C.2.1 dg (K z hz p l e R s m args below meth c D TY A H locs cells slots mc ms ls C hK hZ hd1 hd2 hc1 hc2 hc3 hc4 hP hD hS hl0)
theorem aw_iand {x y : Int32} (dg : decode cc pc = .ok (.iand, 1)) (hq : pc + 1 = q) (K : AW own nm cc nL ret hh X d post kc ks o q lv (.int (x &&& y) :: st) ws) : AW own nm cc nL ret hh X d post kc ks o pc lv (.int y :: .int x :: st) ws := by
  subst hq
  intro z hz p l e R s m args below meth c D TY A H locs cells slots mc ms ls C hK hZ hd1 hd2 hc1 hc2 hc3 hc4 hP hD hS hl0
  exact lv_iand C.1 C.2.1 dg (K z hz p l e R s m args below meth c D TY A H locs cells slots mc ms ls C hK hZ hd1 hd2 hc1 hc2 hc3 hc4 hP hD hS hl0)
theorem aw_ior {x y : Int32} (dg : decode cc pc = .ok (.ior, 1)) (hq : pc + 1 = q) (K : AW own nm cc nL ret hh X d post kc ks o q lv (.int (x ||| y) :: st) ws) : AW own nm cc nL ret hh X d post kc ks o pc lv (.int y :: .int x :: st) ws := by
  subst hq
  intro z hz p l e R s m args below meth c D TY A H locs cells slots mc ms ls C hK hZ hd1 hd2 hc1 hc2 hc3 hc4 hP hD hS hl0
  exact lv_ior C.1 C.2.1 dg (K z hz p l e R s m args below meth c D TY A H locs cells slots mc ms ls C hK hZ hd1 hd2 hc1 hc2 hc3 hc4 hP hD hS hl0)
theorem aw_ixor {x y : Int32} (dg : decode cc pc = .ok (.ixor, 1)) (hq : pc + 1 = q) (K : AW own nm cc nL ret hh X d post kc ks o q lv (.int (x ^^^ y) :: st) ws) : AW own nm cc nL ret hh X d post kc ks o pc lv (.int y :: .int x :: st) ws := by
  subst hq
  intro z hz p l e R s m args below meth c D TY A H locs cells slots mc ms ls C hK hZ hd1 hd2 hc1 hc2 hc3 hc4 hP hD hS hl0
  exact lv_ixor C.1 C.2.1 dg (K z hz p l e R s m args below meth c D TY A H locs cells slots mc ms ls C hK hZ hd1 hd2 hc1 hc2 hc3 hc4 hP hD hS hl0)
theorem aw_ladd {x y : Int64} (dg : decode cc pc = .ok (.ladd, 1)) (hq : pc + 1 = q) (K : AW own nm cc nL ret hh X d post kc ks o q lv (.long (x + y) :: st) ws) : AW own nm cc nL ret hh X d post kc ks o pc lv (.long y :: .long x :: st) ws := by
  subst hq
  intro z hz p l e R s m args below meth c D TY A H locs cells slots mc ms ls C hK hZ hd1 hd2 hc1 hc2 hc3 hc4 hP hD hS hl0
  exact lv_ladd C.1 C.2.1 dg (K z hz p l e R s m args below meth c D TY A H locs cells slots mc ms ls C hK hZ hd1 hd2 hc1 hc2 hc3 hc4 hP hD hS hl0)
theorem aw_lsub {x y : Int64} (dg : decode cc pc = .ok (.lsub, 1)) (hq : pc + 1 = q) (K : AW own nm cc nL ret hh X d post kc ks o q lv (.long (x - y) :: st) ws) : AW own nm cc nL ret hh X d post kc ks o pc lv (.long y :: .long x :: st) ws := by
  subst hq
  intro z hz p l e R s m args below meth c D TY A H locs cells slots mc ms ls C hK hZ hd1 hd2 hc1 hc2 hc3 hc4 hP hD hS hl0
  exact lv_lsub C.1 C.2.1 dg (K z hz p l e R s m args below meth c D TY A H locs cells slots mc ms ls C hK hZ hd1 hd2 hc1 hc2 hc3 hc4 hP hD hS hl0)
theorem aw_lmul {x y : Int64} (dg : decode cc pc = .ok (.lmul, 1)) (hq : pc + 1 = q) (K : AW own nm cc nL ret hh X d post kc ks o q lv (.long (x * y) :: st) ws) : AW own nm cc nL ret hh X d post kc ks o pc lv (.long y :: .long x :: st) ws := by
  subst hq
  intro z hz p l e R s m args below meth c D TY A H locs cells slots mc ms ls C hK hZ hd1 hd2 hc1 hc2 hc3 hc4 hP hD hS hl0
  exact lv_lmul C.1 C.2.1 dg (K z hz p l e R s m args below meth c D TY A H locs cells slots mc ms ls C hK hZ hd1 hd2 hc1 hc2 hc3 hc4 hP hD hS hl0)
theorem aw_ineg {x : Int32} (dg : decode cc pc = .ok (.ineg, 1)) (hq : pc + 1 = q) (K : AW own nm cc nL ret hh X d post kc ks o q lv (.int (-x) :: st) ws) : AW own nm cc nL ret hh X d post kc ks o pc lv (.int x :: st) ws := by
  subst hq
  intro z hz p l e R s m args below meth c D TY A H locs cells slots mc ms ls C hK hZ hd1 hd2 hc1 hc2 hc3 hc4 hP hD hS hl0
  exact lv_ineg C.1 C.2.1 dg (K z hz p l e R s m args below meth c D TY A H locs cells slots mc ms ls C hK hZ hd1 hd2 hc1 hc2 hc3 hc4 hP hD hS hl0)
theorem aw_i2l {x : Int32} (dg : decode cc pc = .ok (.i2l, 1)) (hq : pc + 1 = q) (K : AW own nm cc nL ret hh X d post kc ks o q lv (.long x.toInt64 :: st) ws) : AW own nm cc nL ret hh X d post kc ks o pc lv (.int x :: st) ws := by
  subst hq
  intro z hz p l e R s m args below meth c D TY A H locs cells slots mc ms ls C hK hZ hd1 hd2 hc1 hc2 hc3 hc4 hP hD hS hl0
  exact lv_i2l C.1 C.2.1 dg rfl (K z hz p l e R s m args below meth c D TY A H locs cells slots mc ms ls C hK hZ hd1 hd2 hc1 hc2 hc3 hc4 hP hD hS hl0)
theorem aw_lcmp {x y : Int64} (dg : decode cc pc = .ok (.lcmp, 1)) (hq : pc + 1 = q) (K : AW own nm cc nL ret hh X d post kc ks o q lv (.int (lg_cmp x y) :: st) ws) : AW own nm cc nL ret hh X d post kc ks o pc lv (.long y :: .long x :: st) ws := by
  subst hq
  intro z hz p l e R s m args below meth c D TY A H locs cells slots mc ms ls C hK hZ hd1 hd2 hc1 hc2 hc3 hc4 hP hD hS hl0
  exact W.lcmp C.1 C.2.1 dg (K z hz p l e R s m args below meth c D TY A H locs cells slots mc ms ls C hK hZ hd1 hd2 hc1 hc2 hc3 hc4 hP hD hS hl0)
theorem aw_ishl {x y : Int32} (dg : decode cc pc = .ok (.ishl, 1)) (hq : pc + 1 = q) (K : AW own nm cc nL ret hh X d post kc ks o q lv (.int (x <<< (y &&& 31)) :: st) ws) : AW own nm cc nL ret hh X d post kc ks o pc lv (.int y :: .int x :: st) ws := by
  subst hq
  intro z hz p l e R s m args below meth c D TY A H locs cells slots mc ms ls C hK hZ hd1 hd2 hc1 hc2 hc3 hc4 hP hD hS hl0
  exact lv_ishl C.1 C.2.1 dg (K z hz p l e R s m args below meth c D TY A H locs cells slots mc ms ls C hK hZ hd1 hd2 hc1 hc2 hc3 hc4 hP hD hS hl0)
theorem aw_ishr {x y : Int32} (dg : decode cc pc = .ok (.ishr, 1)) (hq : pc + 1 = q) (K : AW own nm cc nL ret hh X d post kc ks o q lv (.int (x >>> (y &&& 31)) :: st) ws) : AW own nm cc nL ret hh X d post kc ks o pc lv (.int y :: .int x :: st) ws := by
  subst hq
  intro z hz p l e R s m args below meth c D TY A H locs cells slots mc ms ls C hK hZ hd1 hd2 hc1 hc2 hc3 hc4 hP hD hS hl0
  exact lv_ishr C.1 C.2.1 dg (K z hz p l e R s m args below meth c D TY A H locs cells slots mc ms ls C hK hZ hd1 hd2 hc1 hc2 hc3 hc4 hP hD hS hl0)
theorem aw_dup {va : Value} (dg : decode cc pc = .ok (.dup, 1)) (hq : pc + 1 = q) (hva : va.category = 1) (K : AW own nm cc nL ret hh X d post kc ks o q lv (va :: va :: st) ws) : AW own nm cc nL ret hh X d post kc ks o pc lv (va :: st) ws := by
  subst hq
  intro z hz p l e R s m args below meth c D TY A H locs cells slots mc ms ls C hK hZ hd1 hd2 hc1 hc2 hc3 hc4 hP hD hS hl0
  exact lv_dup C.1 C.2.1 dg hva (K z hz p l e R s m args below meth c D TY A H locs cells slots mc ms ls C hK hZ hd1 hd2 hc1 hc2 hc3 hc4 hP hD hS hl0)
theorem aw_pop {va : Value} (dg : decode cc pc = .ok (.pop, 1)) (hq : pc + 1 = q) (hva : va.category = 1) (K : AW own nm cc nL ret hh X d post kc ks o q lv st ws) : AW own nm cc nL ret hh X d post kc ks o pc lv (va :: st) ws := by
  subst hq
  intro z hz p l e R s m args below meth c D TY A H locs cells slots mc ms ls C hK hZ hd1 hd2 hc1 hc2 hc3 hc4 hP hD hS hl0
  exact lv_pop C.1 C.2.1 dg hva (K z hz p l e R s m args below meth c D TY A H locs cells slots mc ms ls C hK hZ hd1 hd2 hc1 hc2 hc3 hc4 hP hD hS hl0)
theorem aw_dup2 {va vb : Value} (dg : decode cc pc = .ok (.dup2, 1)) (hq : pc + 1 = q) (hva : va.category = 1) (hvb : vb.category = 1) (K : AW own nm cc nL ret hh X d post kc ks o q lv (va :: vb :: va :: vb :: st) ws) : AW own nm cc nL ret hh X d post kc ks o pc lv (va :: vb :: st) ws := by
  subst hq
  intro z hz p l e R s m args below meth c D TY A H locs cells slots mc ms ls C hK hZ hd1 hd2 hc1 hc2 hc3 hc4 hP hD hS hl0
  exact lv_dup2_11 C.1 C.2.1 dg hva hvb (K z hz p l e R s m args below meth c D TY A H locs cells slots mc ms ls C hK hZ hd1 hd2 hc1 hc2 hc3 hc4 hP hD hS hl0)
theorem aw_dup_x1 {va vb : Value} (dg : decode cc pc = .ok (.dup_x1, 1)) (hq : pc + 1 = q) (hva : va.category = 1) (hvb : vb.category = 1) (K : AW own nm cc nL ret hh X d post kc ks o q lv (va :: vb :: va :: st) ws) : AW own nm cc nL ret hh X d post kc ks o pc lv (va :: vb :: st) ws := by
  subst hq
  intro z hz p l e R s m args below meth c D TY A H locs cells slots mc ms ls C hK hZ hd1 hd2 hc1 hc2 hc3 hc4 hP hD hS hl0
  exact lv_dup_x1 C.1 C.2.1 dg hva hvb (K z hz p l e R s m args below meth c D TY A H locs cells slots mc ms ls C hK hZ hd1 hd2 hc1 hc2 hc3 hc4 hP hD hS hl0)
theorem aw_pop2L {va : Value} (dg : decode cc pc = .ok (.pop2, 1)) (hq : pc + 1 = q) (hva : va.category = 2) (K : AW own nm cc nL ret hh X d post kc ks o q lv st ws) : AW own nm cc nL ret hh X d post kc ks o pc lv (va :: st) ws := by
  subst hq
  intro z hz p l e R s m args below meth c D TY A H locs cells slots mc ms ls C hK hZ hd1 hd2 hc1 hc2 hc3 hc4 hP hD hS hl0
  exact lv_pop2_2 C.1 C.2.1 dg hva (K z hz p l e R s m args below meth c D TY A H locs cells slots mc ms ls C hK hZ hd1 hd2 hc1 hc2 hc3 hc4 hP hD hS hl0)
theorem aw_idiv {x y : Int32} (dg : decode cc pc = .ok (.idiv, 1)) (hq : pc + 1 = q) (K : AW own nm cc nL ret hh X d post kc ks o q lv (.int (x / y) :: st) ws) : AW own nm cc nL ret hh X d post kc ks (if y = 0 then none else o) pc lv (.int y :: .int x :: st) ws := by
  subst hq
  intro z hz p l e R s m args below meth c D TY A H locs cells slots mc ms ls C hK hZ hd1 hd2 hc1 hc2 hc3 hc4 hP hD hS hl0
  by_cases h9 : y = 0
  · rw [if_pos h9] at hz; cases hz
  · rw [if_neg h9] at hz
    exact lv_idiv C.1 C.2.1 dg h9 (K z hz p l e R s m args below meth c D TY A H locs cells slots mc ms ls C hK hZ hd1 hd2 hc1 hc2 hc3 hc4 hP hD hS hl0)
theorem aw_idivT {x y : Int32} (dg : decode cc pc = .ok (.idiv, 1)) (hq : pc + 1 = q) (h9 : ¬ y = 0) (K : AW own nm cc nL ret hh X d post kc ks o q lv (.int (x / y) :: st) ws) : AW own nm cc nL ret hh X d post kc ks o pc lv (.int y :: .int x :: st) ws := by
  subst hq
  intro z hz p l e R s m args below meth c D TY A H locs cells slots mc ms ls C hK hZ hd1 hd2 hc1 hc2 hc3 hc4 hP hD hS hl0
  · exact lv_idiv C.1 C.2.1 dg h9 (K z hz p l e R s m args below meth c D TY A H locs cells slots mc ms ls C hK hZ hd1 hd2 hc1 hc2 hc3 hc4 hP hD hS hl0)
end AWR

end MG_02baw
section MG_02caw
section AWR
variable {own nm : String} {cc : ByteArray} {nL : Nat} {ret : Option FieldType} {hh : List (Nat × Nat × Nat × Nat)} {X : aX} {d : Nat} {T : Type} {post : T → aO → aW → Prop} {kc ks : Nat} {o : Option T} {pc q : Nat} {lv lv' : List (Nat × Value)} {st : List Value} {ws : aW}
theorem aw_irem {x y : Int32} (dg : decode cc pc = .ok (.irem, 1)) (hq : pc + 1 = q) (K : AW own nm cc nL ret hh X d post kc ks o q lv (.int (x % y) :: st) ws) : AW own nm cc nL ret hh X d post kc ks (if y = 0 then none else o) pc lv (.int y :: .int x :: st) ws := by
  subst hq
  intro z hz p l e R s m args below meth c D TY A H locs cells slots mc ms ls C hK hZ hd1 hd2 hc1 hc2 hc3 hc4 hP hD hS hl0
  by_cases h9 : y = 0
  · rw [if_pos h9] at hz; cases hz
  · rw [if_neg h9] at hz
    refine lv_irem C.1 C.2.1 dg h9 ?_
    rw [irem_eq_mod]
    exact K z hz p l e R s m args below meth c D TY A H locs cells slots mc ms ls C hK hZ hd1 hd2 hc1 hc2 hc3 hc4 hP hD hS hl0
theorem aw_iremT {x y : Int32} (dg : decode cc pc = .ok (.irem, 1)) (hq : pc + 1 = q) (h9 : ¬ y = 0) (K : AW own nm cc nL ret hh X d post kc ks o q lv (.int (x % y) :: st) ws) : AW own nm cc nL ret hh X d post kc ks o pc lv (.int y :: .int x :: st) ws := by
  subst hq
  intro z hz p l e R s m args below meth c D TY A H locs cells slots mc ms ls C hK hZ hd1 hd2 hc1 hc2 hc3 hc4 hP hD hS hl0
  · refine lv_irem C.1 C.2.1 dg h9 ?_
    rw [irem_eq_mod]
    exact K z hz p l e R s m args below meth c D TY A H locs cells slots mc ms ls C hK hZ hd1 hd2 hc1 hc2 hc3 hc4 hP hD hS hl0
theorem aw_if_eq {x : Int32} {off : Int} {tgt : Nat} {A B : Option T} [dec : Decidable (x = 0)] (dg : decode cc pc = .ok (.ifCond .eq off, 3)) (ht : (pc : Int) + off = (tgt : Int)) (hq : pc + 3 = q) (kt : x = 0 → AW own nm cc nL ret hh X d post kc ks A tgt lv st ws) (kf : ¬ (x = 0) → AW own nm cc nL ret hh X d post kc ks B q lv st ws) : AW own nm cc nL ret hh X d post kc ks (if x = 0 then A else B) pc lv (.int x :: st) ws := by
  subst hq
  intro z hz p l e R s m args below meth c D TY A0 H locs cells slots mc ms ls C hK hZ hd1 hd2 hc1 hc2 hc3 hc4 hP hD hS hl0
  exact lv_if_eq C.1 C.2.1 dg ht (fun h9 => kt h9 z (by rw [if_pos h9] at hz; exact hz) p l e R s m args below meth c D TY A0 H locs cells slots mc ms ls C hK hZ hd1 hd2 hc1 hc2 hc3 hc4 hP hD hS hl0) (fun h9 => kf h9 z (by rw [if_neg h9] at hz; exact hz) p l e R s m args below meth c D TY A0 H locs cells slots mc ms ls C hK hZ hd1 hd2 hc1 hc2 hc3 hc4 hP hD hS hl0)
theorem aw_if_eqT {x : Int32} {off : Int} {tgt : Nat} (dg : decode cc pc = .ok (.ifCond .eq off, 3)) (ht : (pc : Int) + off = (tgt : Int)) (h8 : x = 0) (kt : AW own nm cc nL ret hh X d post kc ks o tgt lv st ws) : AW own nm cc nL ret hh X d post kc ks o pc lv (.int x :: st) ws := by
  intro z hz p l e R s m args below meth c D TY A H locs cells slots mc ms ls C hK hZ hd1 hd2 hc1 hc2 hc3 hc4 hP hD hS hl0
  exact lv_if_eq C.1 C.2.1 dg ht (fun _ => kt z hz p l e R s m args below meth c D TY A H locs cells slots mc ms ls C hK hZ hd1 hd2 hc1 hc2 hc3 hc4 hP hD hS hl0) (fun h9 => absurd h8 h9)
theorem aw_if_eqF {x : Int32} {off : Int} {tgt : Nat} (dg : decode cc pc = .ok (.ifCond .eq off, 3)) (ht : (pc : Int) + off = (tgt : Int)) (hq : pc + 3 = q) (h8 : ¬ (x = 0)) (kf : AW own nm cc nL ret hh X d post kc ks o q lv st ws) : AW own nm cc nL ret hh X d post kc ks o pc lv (.int x :: st) ws := by
  subst hq
  intro z hz p l e R s m args below meth c D TY A H locs cells slots mc ms ls C hK hZ hd1 hd2 hc1 hc2 hc3 hc4 hP hD hS hl0
  exact lv_if_eq C.1 C.2.1 dg ht (fun h9 => absurd h9 h8) (fun _ => kf z hz p l e R s m args below meth c D TY A H locs cells slots mc ms ls C hK hZ hd1 hd2 hc1 hc2 hc3 hc4 hP hD hS hl0)
theorem aw_icmp_eq {x y : Int32} {off : Int} {tgt : Nat} {A B : Option T} [dec : Decidable (x = y)] (dg : decode cc pc = .ok (.if_icmp .eq off, 3)) (ht : (pc : Int) + off = (tgt : Int)) (hq : pc + 3 = q) (kt : x = y → AW own nm cc nL ret hh X d post kc ks A tgt lv st ws) (kf : ¬ (x = y) → AW own nm cc nL ret hh X d post kc ks B q lv st ws) : AW own nm cc nL ret hh X d post kc ks (if x = y then A else B) pc lv (.int y :: .int x :: st) ws := by
  subst hq
  intro z hz p l e R s m args below meth c D TY A0 H locs cells slots mc ms ls C hK hZ hd1 hd2 hc1 hc2 hc3 hc4 hP hD hS hl0
  exact lv_icmp_eq C.1 C.2.1 dg ht (fun h9 => kt h9 z (by rw [if_pos h9] at hz; exact hz) p l e R s m args below meth c D TY A0 H locs cells slots mc ms ls C hK hZ hd1 hd2 hc1 hc2 hc3 hc4 hP hD hS hl0) (fun h9 => kf h9 z (by rw [if_neg h9] at hz; exact hz) p l e R s m args below meth c D TY A0 H locs cells slots mc ms ls C hK hZ hd1 hd2 hc1 hc2 hc3 hc4 hP hD hS hl0)
theorem aw_icmp_eqT {x y : Int32} {off : Int} {tgt : Nat} (dg : decode cc pc = .ok (.if_icmp .eq off, 3)) (ht : (pc : Int) + off = (tgt : Int)) (h8 : x = y) (kt : AW own nm cc nL ret hh X d post kc ks o tgt lv st ws) : AW own nm cc nL ret hh X d post kc ks o pc lv (.int y :: .int x :: st) ws := by
  intro z hz p l e R s m args below meth c D TY A H locs cells slots mc ms ls C hK hZ hd1 hd2 hc1 hc2 hc3 hc4 hP hD hS hl0
  exact lv_icmp_eq C.1 C.2.1 dg ht (fun _ => kt z hz p l e R s m args below meth c D TY A H locs cells slots mc ms ls C hK hZ hd1 hd2 hc1 hc2 hc3 hc4 hP hD hS hl0) (fun h9 => absurd h8 h9)
theorem aw_icmp_eqF {x y : Int32} {off : Int} {tgt : Nat} (dg : decode cc pc = .ok (.if_icmp .eq off, 3)) (ht : (pc : Int) + off = (tgt : Int)) (hq : pc + 3 = q) (h8 : ¬ (x = y)) (kf : AW own nm cc nL ret hh X d post kc ks o q lv st ws) : AW own nm cc nL ret hh X d post kc ks o pc lv (.int y :: .int x :: st) ws := by
  subst hq
  intro z hz p l e R s m args below meth c D TY A H locs cells slots mc ms ls C hK hZ hd1 hd2 hc1 hc2 hc3 hc4 hP hD hS hl0
  exact lv_icmp_eq C.1 C.2.1 dg ht (fun h9 => absurd h9 h8) (fun _ => kf z hz p l e R s m args below meth c D TY A H locs cells slots mc ms ls C hK hZ hd1 hd2 hc1 hc2 hc3 hc4 hP hD hS hl0)
theorem aw_if_ne {x : Int32} {off : Int} {tgt : Nat} {A B : Option T} [dec : Decidable (x = 0)] (dg : decode cc pc = .ok (.ifCond .ne off, 3)) (ht : (pc : Int) + off = (tgt : Int)) (hq : pc + 3 = q) (kt : ¬ (x = 0) → AW own nm cc nL ret hh X d post kc ks A tgt lv st ws) (kf : x = 0 → AW own nm cc nL ret hh X d post kc ks B q lv st ws) : AW own nm cc nL ret hh X d post kc ks (if x = 0 then B else A) pc lv (.int x :: st) ws := by
  subst hq
  intro z hz p l e R s m args below meth c D TY A0 H locs cells slots mc ms ls C hK hZ hd1 hd2 hc1 hc2 hc3 hc4 hP hD hS hl0
  exact lv_if_ne C.1 C.2.1 dg ht (fun h9 => kt h9 z (by rw [if_neg h9] at hz; exact hz) p l e R s m args below meth c D TY A0 H locs cells slots mc ms ls C hK hZ hd1 hd2 hc1 hc2 hc3 hc4 hP hD hS hl0) (fun h9 => kf h9 z (by rw [if_pos h9] at hz; exact hz) p l e R s m args below meth c D TY A0 H locs cells slots mc ms ls C hK hZ hd1 hd2 hc1 hc2 hc3 hc4 hP hD hS hl0)
theorem aw_if_neT {x : Int32} {off : Int} {tgt : Nat} (dg : decode cc pc = .ok (.ifCond .ne off, 3)) (ht : (pc : Int) + off = (tgt : Int)) (h8 : ¬ (x = 0)) (kt : AW own nm cc nL ret hh X d post kc ks o tgt lv st ws) : AW own nm cc nL ret hh X d post kc ks o pc lv (.int x :: st) ws := by
  intro z hz p l e R s m args below meth c D TY A H locs cells slots mc ms ls C hK hZ hd1 hd2 hc1 hc2 hc3 hc4 hP hD hS hl0
  exact lv_if_ne C.1 C.2.1 dg ht (fun _ => kt z hz p l e R s m args below meth c D TY A H locs cells slots mc ms ls C hK hZ hd1 hd2 hc1 hc2 hc3 hc4 hP hD hS hl0) (fun h9 => absurd h9 h8)
theorem aw_if_neF {x : Int32} {off : Int} {tgt : Nat} (dg : decode cc pc = .ok (.ifCond .ne off, 3)) (ht : (pc : Int) + off = (tgt : Int)) (hq : pc + 3 = q) (h8 : x = 0) (kf : AW own nm cc nL ret hh X d post kc ks o q lv st ws) : AW own nm cc nL ret hh X d post kc ks o pc lv (.int x :: st) ws := by
  subst hq
  intro z hz p l e R s m args below meth c D TY A H locs cells slots mc ms ls C hK hZ hd1 hd2 hc1 hc2 hc3 hc4 hP hD hS hl0
  exact lv_if_ne C.1 C.2.1 dg ht (fun h9 => absurd h8 h9) (fun _ => kf z hz p l e R s m args below meth c D TY A H locs cells slots mc ms ls C hK hZ hd1 hd2 hc1 hc2 hc3 hc4 hP hD hS hl0)
theorem aw_icmp_ne {x y : Int32} {off : Int} {tgt : Nat} {A B : Option T} [dec : Decidable (x = y)] (dg : decode cc pc = .ok (.if_icmp .ne off, 3)) (ht : (pc : Int) + off = (tgt : Int)) (hq : pc + 3 = q) (kt : ¬ (x = y) → AW own nm cc nL ret hh X d post kc ks A tgt lv st ws) (kf : x = y → AW own nm cc nL ret hh X d post kc ks B q lv st ws) : AW own nm cc nL ret hh X d post kc ks (if x = y then B else A) pc lv (.int y :: .int x :: st) ws := by
  subst hq
  intro z hz p l e R s m args below meth c D TY A0 H locs cells slots mc ms ls C hK hZ hd1 hd2 hc1 hc2 hc3 hc4 hP hD hS hl0
  exact lv_icmp_ne C.1 C.2.1 dg ht (fun h9 => kt h9 z (by rw [if_neg h9] at hz; exact hz) p l e R s m args below meth c D TY A0 H locs cells slots mc ms ls C hK hZ hd1 hd2 hc1 hc2 hc3 hc4 hP hD hS hl0) (fun h9 => kf h9 z (by rw [if_pos h9] at hz; exact hz) p l e R s m args below meth c D TY A0 H locs cells slots mc ms ls C hK hZ hd1 hd2 hc1 hc2 hc3 hc4 hP hD hS hl0)
theorem aw_icmp_neT {x y : Int32} {off : Int} {tgt : Nat} (dg : decode cc pc = .ok (.if_icmp .ne off, 3)) (ht : (pc : Int) + off = (tgt : Int)) (h8 : ¬ (x = y)) (kt : AW own nm cc nL ret hh X d post kc ks o tgt lv st ws) : AW own nm cc nL ret hh X d post kc ks o pc lv (.int y :: .int x :: st) ws := by
  intro z hz p l e R s m args below meth c D TY A H locs cells slots mc ms ls C hK hZ hd1 hd2 hc1 hc2 hc3 hc4 hP hD hS hl0
  exact lv_icmp_ne C.1 C.2.1 dg ht (fun _ => kt z hz p l e R s m args below meth c D TY A H locs cells slots mc ms ls C hK hZ hd1 hd2 hc1 hc2 hc3 hc4 hP hD hS hl0) (fun h9 => absurd h9 h8)
theorem aw_icmp_neF {x y : Int32} {off : Int} {tgt : Nat} (dg : decode cc pc = .ok (.if_icmp .ne off, 3)) (ht : (pc : Int) + off = (tgt : Int)) (hq : pc + 3 = q) (h8 : x = y) (kf : AW own nm cc nL ret hh X d post kc ks o q lv st ws) : AW own nm cc nL ret hh X d post kc ks o pc lv (.int y :: .int x :: st) ws := by
  subst hq
  intro z hz p l e R s m args below meth c D TY A H locs cells slots mc ms ls C hK hZ hd1 hd2 hc1 hc2 hc3 hc4 hP hD hS hl0
  exact lv_icmp_ne C.1 C.2.1 dg ht (fun h9 => absurd h8 h9) (fun _ => kf z hz p l e R s m args below meth c D TY A H locs cells slots mc ms ls C hK hZ hd1 hd2 hc1 hc2 hc3 hc4 hP hD hS hl0)
theorem aw_if_lt {x : Int32} {off : Int} {tgt : Nat} {A B : Option T} [dec : Decidable (x < 0)] (dg : decode cc pc = .ok (.ifCond .lt off, 3)) (ht : (pc : Int) + off = (tgt : Int)) (hq : pc + 3 = q) (kt : x < 0 → AW own nm cc nL ret hh X d post kc ks A tgt lv st ws) (kf : ¬ (x < 0) → AW own nm cc nL ret hh X d post kc ks B q lv st ws) : AW own nm cc nL ret hh X d post kc ks (if x < 0 then A else B) pc lv (.int x :: st) ws := by
  subst hq
  intro z hz p l e R s m args below meth c D TY A0 H locs cells slots mc ms ls C hK hZ hd1 hd2 hc1 hc2 hc3 hc4 hP hD hS hl0
  exact lv_if_lt C.1 C.2.1 dg ht (fun h9 => kt h9 z (by rw [if_pos h9] at hz; exact hz) p l e R s m args below meth c D TY A0 H locs cells slots mc ms ls C hK hZ hd1 hd2 hc1 hc2 hc3 hc4 hP hD hS hl0) (fun h9 => kf h9 z (by rw [if_neg h9] at hz; exact hz) p l e R s m args below meth c D TY A0 H locs cells slots mc ms ls C hK hZ hd1 hd2 hc1 hc2 hc3 hc4 hP hD hS hl0)
theorem aw_if_ltT {x : Int32} {off : Int} {tgt : Nat} (dg : decode cc pc = .ok (.ifCond .lt off, 3)) (ht : (pc : Int) + off = (tgt : Int)) (h8 : x < 0) (kt : AW own nm cc nL ret hh X d post kc ks o tgt lv st ws) : AW own nm cc nL ret hh X d post kc ks o pc lv (.int x :: st) ws := by
  intro z hz p l e R s m args below meth c D TY A H locs cells slots mc ms ls C hK hZ hd1 hd2 hc1 hc2 hc3 hc4 hP hD hS hl0
  exact lv_if_lt C.1 C.2.1 dg ht (fun _ => kt z hz p l e R s m args below meth c D TY A H locs cells slots mc ms ls C hK hZ hd1 hd2 hc1 hc2 hc3 hc4 hP hD hS hl0) (fun h9 => absurd h8 h9)
theorem aw_if_ltF {x : Int32} {off : Int} {tgt : Nat} (dg : decode cc pc = .ok (.ifCond .lt off, 3)) (ht : (pc : Int) + off = (tgt : Int)) (hq : pc + 3 = q) (h8 : ¬ (x < 0)) (kf : AW own nm cc nL ret hh X d post kc ks o q lv st ws) : AW own nm cc nL ret hh X d post kc ks o pc lv (.int x :: st) ws := by
  subst hq
  intro z hz p l e R s m args below meth c D TY A H locs cells slots mc ms ls C hK hZ hd1 hd2 hc1 hc2 hc3 hc4 hP hD hS hl0
  exact lv_if_lt C.1 C.2.1 dg ht (fun h9 => absurd h9 h8) (fun _ => kf z hz p l e R s m args below meth c D TY A H locs cells slots mc ms ls C hK hZ hd1 hd2 hc1 hc2 hc3 hc4 hP hD hS hl0)
theorem aw_icmp_lt {x y : Int32} {off : Int} {tgt : Nat} {A B : Option T} [dec : Decidable (x < y)] (dg : decode cc pc = .ok (.if_icmp .lt off, 3)) (ht : (pc : Int) + off = (tgt : Int)) (hq : pc + 3 = q) (kt : x < y → AW own nm cc nL ret hh X d post kc ks A tgt lv st ws) (kf : ¬ (x < y) → AW own nm cc nL ret hh X d post kc ks B q lv st ws) : AW own nm cc nL ret hh X d post kc ks (if x < y then A else B) pc lv (.int y :: .int x :: st) ws := by
  subst hq
  intro z hz p l e R s m args below meth c D TY A0 H locs cells slots mc ms ls C hK hZ hd1 hd2 hc1 hc2 hc3 hc4 hP hD hS hl0
  exact lv_icmp_lt C.1 C.2.1 dg ht (fun h9 => kt h9 z (by rw [if_pos h9] at hz; exact hz) p l e R s m args below meth c D TY A0 H locs cells slots mc ms ls C hK hZ hd1 hd2 hc1 hc2 hc3 hc4 hP hD hS hl0) (fun h9 => kf h9 z (by rw [if_neg h9] at hz; exact hz) p l e R s m args below meth c D TY A0 H locs cells slots mc ms ls C hK hZ hd1 hd2 hc1 hc2 hc3 hc4 hP hD hS hl0)
theorem aw_icmp_ltT {x y : Int32} {off : Int} {tgt : Nat} (dg : decode cc pc = .ok (.if_icmp .lt off, 3)) (ht : (pc : Int) + off = (tgt : Int)) (h8 : x < y) (kt : AW own nm cc nL ret hh X d post kc ks o tgt lv st ws) : AW own nm cc nL ret hh X d post kc ks o pc lv (.int y :: .int x :: st) ws := by
  intro z hz p l e R s m args below meth c D TY A H locs cells slots mc ms ls C hK hZ hd1 hd2 hc1 hc2 hc3 hc4 hP hD hS hl0
  exact lv_icmp_lt C.1 C.2.1 dg ht (fun _ => kt z hz p l e R s m args below meth c D TY A H locs cells slots mc ms ls C hK hZ hd1 hd2 hc1 hc2 hc3 hc4 hP hD hS hl0) (fun h9 => absurd h8 h9)
theorem aw_icmp_ltF {x y : Int32} {off : Int} {tgt : Nat} (dg : decode cc pc = .ok (.if_icmp .lt off, 3)) (ht : (pc : Int) + off = (tgt : Int)) (hq : pc + 3 = q) (h8 : ¬ (x < y)) (kf : AW own nm cc nL ret hh X d post kc ks o q lv st ws) : AW own nm cc nL ret hh X d post kc ks o pc lv (.int y :: .int x :: st) ws := by
  subst hq
  intro z hz p l e R s m args below meth c D TY A H locs cells slots mc ms ls C hK hZ hd1 hd2 hc1 hc2 hc3 hc4 hP hD hS hl0
  exact lv_icmp_lt C.1 C.2.1 dg ht (fun h9 => absurd h9 h8) (fun _ => kf z hz p l e R s m args below meth c D TY A H locs cells slots mc ms ls C hK hZ hd1 hd2 hc1 hc2 hc3 hc4 hP hD hS hl0)
theorem aw_if_ge {x : Int32} {off : Int} {tgt : Nat} {A B : Option T} [dec : Decidable (0 ≤ x)] (dg : decode cc pc = .ok (.ifCond .ge off, 3)) (ht : (pc : Int) + off = (tgt : Int)) (hq : pc + 3 = q) (kt : 0 ≤ x → AW own nm cc nL ret hh X d post kc ks A tgt lv st ws) (kf : ¬ (0 ≤ x) → AW own nm cc nL ret hh X d post kc ks B q lv st ws) : AW own nm cc nL ret hh X d post kc ks (if 0 ≤ x then A else B) pc lv (.int x :: st) ws := by
  subst hq
  intro z hz p l e R s m args below meth c D TY A0 H locs cells slots mc ms ls C hK hZ hd1 hd2 hc1 hc2 hc3 hc4 hP hD hS hl0
  exact lv_if_ge C.1 C.2.1 dg ht (fun h9 => kt h9 z (by rw [if_pos h9] at hz; exact hz) p l e R s m args below meth c D TY A0 H locs cells slots mc ms ls C hK hZ hd1 hd2 hc1 hc2 hc3 hc4 hP hD hS hl0) (fun h9 => kf h9 z (by rw [if_neg h9] at hz; exact hz) p l e R s m args below meth c D TY A0 H locs cells slots mc ms ls C hK hZ hd1 hd2 hc1 hc2 hc3 hc4 hP hD hS hl0)
theorem aw_if_geT {x : Int32} {off : Int} {tgt : Nat} (dg : decode cc pc = .ok (.ifCond .ge off, 3)) (ht : (pc : Int) + off = (tgt : Int)) (h8 : 0 ≤ x) (kt : AW own nm cc nL ret hh X d post kc ks o tgt lv st ws) : AW own nm cc nL ret hh X d post kc ks o pc lv (.int x :: st) ws := by
  intro z hz p l e R s m args below meth c D TY A H locs cells slots mc ms ls C hK hZ hd1 hd2 hc1 hc2 hc3 hc4 hP hD hS hl0
  exact lv_if_ge C.1 C.2.1 dg ht (fun _ => kt z hz p l e R s m args below meth c D TY A H locs cells slots mc ms ls C hK hZ hd1 hd2 hc1 hc2 hc3 hc4 hP hD hS hl0) (fun h9 => absurd h8 h9)
theorem aw_if_geF {x : Int32} {off : Int} {tgt : Nat} (dg : decode cc pc = .ok (.ifCond .ge off, 3)) (ht : (pc : Int) + off = (tgt : Int)) (hq : pc + 3 = q) (h8 : ¬ (0 ≤ x)) (kf : AW own nm cc nL ret hh X d post kc ks o q lv st ws) : AW own nm cc nL ret hh X d post kc ks o pc lv (.int x :: st) ws := by
  subst hq
  intro z hz p l e R s m args below meth c D TY A H locs cells slots mc ms ls C hK hZ hd1 hd2 hc1 hc2 hc3 hc4 hP hD hS hl0
  exact lv_if_ge C.1 C.2.1 dg ht (fun h9 => absurd h9 h8) (fun _ => kf z hz p l e R s m args below meth c D TY A H locs cells slots mc ms ls C hK hZ hd1 hd2 hc1 hc2 hc3 hc4 hP hD hS hl0)
theorem aw_icmp_ge {x y : Int32} {off : Int} {tgt : Nat} {A B : Option T} [dec : Decidable (y ≤ x)] (dg : decode cc pc = .ok (.if_icmp .ge off, 3)) (ht : (pc : Int) + off = (tgt : Int)) (hq : pc + 3 = q) (kt : y ≤ x → AW own nm cc nL ret hh X d post kc ks A tgt lv st ws) (kf : ¬ (y ≤ x) → AW own nm cc nL ret hh X d post kc ks B q lv st ws) : AW own nm cc nL ret hh X d post kc ks (if y ≤ x then A else B) pc lv (.int y :: .int x :: st) ws := by
  subst hq
  intro z hz p l e R s m args below meth c D TY A0 H locs cells slots mc ms ls C hK hZ hd1 hd2 hc1 hc2 hc3 hc4 hP hD hS hl0
  exact lv_icmp_ge C.1 C.2.1 dg ht (fun h9 => kt h9 z (by rw [if_pos h9] at hz; exact hz) p l e R s m args below meth c D TY A0 H locs cells slots mc ms ls C hK hZ hd1 hd2 hc1 hc2 hc3 hc4 hP hD hS hl0) (fun h9 => kf h9 z (by rw [if_neg h9] at hz; exact hz) p l e R s m args below meth c D TY A0 H locs cells slots mc ms ls C hK hZ hd1 hd2 hc1 hc2 hc3 hc4 hP hD hS hl0)
theorem aw_icmp_geT {x y : Int32} {off : Int} {tgt : Nat} (dg : decode cc pc = .ok (.if_icmp .ge off, 3)) (ht : (pc : Int) + off = (tgt : Int)) (h8 : y ≤ x) (kt : AW own nm cc nL ret hh X d post kc ks o tgt lv st ws) : AW own nm cc nL ret hh X d post kc ks o pc lv (.int y :: .int x :: st) ws := by
  intro z hz p l e R s m args below meth c D TY A H locs cells slots mc ms ls C hK hZ hd1 hd2 hc1 hc2 hc3 hc4 hP hD hS hl0
  exact lv_icmp_ge C.1 C.2.1 dg ht (fun _ => kt z hz p l e R s m args below meth c D TY A H locs cells slots mc ms ls C hK hZ hd1 hd2 hc1 hc2 hc3 hc4 hP hD hS hl0) (fun h9 => absurd h8 h9)
theorem aw_icmp_geF {x y : Int32} {off : Int} {tgt : Nat} (dg : decode cc pc = .ok (.if_icmp .ge off, 3)) (ht : (pc : Int) + off = (tgt : Int)) (hq : pc + 3 = q) (h8 : ¬ (y ≤ x)) (kf : AW own nm cc nL ret hh X d post kc ks o q lv st ws) : AW own nm cc nL ret hh X d post kc ks o pc lv (.int y :: .int x :: st) ws := by
  subst hq
  intro z hz p l e R s m args below meth c D TY A H locs cells slots mc ms ls C hK hZ hd1 hd2 hc1 hc2 hc3 hc4 hP hD hS hl0
  exact lv_icmp_ge C.1 C.2.1 dg ht (fun h9 => absurd h9 h8) (fun _ => kf z hz p l e R s m args below meth c D TY A H locs cells slots mc ms ls C hK hZ hd1 hd2 hc1 hc2 hc3 hc4 hP hD hS hl0)
theorem aw_if_gt {x : Int32} {off : Int} {tgt : Nat} {A B : Option T} [dec : Decidable (0 < x)] (dg : decode cc pc = .ok (.ifCond .gt off, 3)) (ht : (pc : Int) + off = (tgt : Int)) (hq : pc + 3 = q) (kt : 0 < x → AW own nm cc nL ret hh X d post kc ks A tgt lv st ws) (kf : ¬ (0 < x) → AW own nm cc nL ret hh X d post kc ks B q lv st ws) : AW own nm cc nL ret hh X d post kc ks (if 0 < x then A else B) pc lv (.int x :: st) ws := by
  subst hq
  intro z hz p l e R s m args below meth c D TY A0 H locs cells slots mc ms ls C hK hZ hd1 hd2 hc1 hc2 hc3 hc4 hP hD hS hl0
  exact lv_if_gt C.1 C.2.1 dg ht (fun h9 => kt h9 z (by rw [if_pos h9] at hz; exact hz) p l e R s m args below meth c D TY A0 H locs cells slots mc ms ls C hK hZ hd1 hd2 hc1 hc2 hc3 hc4 hP hD hS hl0) (fun h9 => kf h9 z (by rw [if_neg h9] at hz; exact hz) p l e R s m args below meth c D TY A0 H locs cells slots mc ms ls C hK hZ hd1 hd2 hc1 hc2 hc3 hc4 hP hD hS hl0)
theorem aw_if_gtT {x : Int32} {off : Int} {tgt : Nat} (dg : decode cc pc = .ok (.ifCond .gt off, 3)) (ht : (pc : Int) + off = (tgt : Int)) (h8 : 0 < x) (kt : AW own nm cc nL ret hh X d post kc ks o tgt lv st ws) : AW own nm cc nL ret hh X d post kc ks o pc lv (.int x :: st) ws := by
  intro z hz p l e R s m args below meth c D TY A H locs cells slots mc ms ls C hK hZ hd1 hd2 hc1 hc2 hc3 hc4 hP hD hS hl0
  exact lv_if_gt C.1 C.2.1 dg ht (fun _ => kt z hz p l e R s m args below meth c D TY A H locs cells slots mc ms ls C hK hZ hd1 hd2 hc1 hc2 hc3 hc4 hP hD hS hl0) (fun h9 => absurd h8 h9)
theorem aw_if_gtF {x : Int32} {off : Int} {tgt : Nat} (dg : decode cc pc = .ok (.ifCond .gt off, 3)) (ht : (pc : Int) + off = (tgt : Int)) (hq : pc + 3 = q) (h8 : ¬ (0 < x)) (kf : AW own nm cc nL ret hh X d post kc ks o q lv st ws) : AW own nm cc nL ret hh X d post kc ks o pc lv (.int x :: st) ws := by
  subst hq
  intro z hz p l e R s m args below meth c D TY A H locs cells slots mc ms ls C hK hZ hd1 hd2 hc1 hc2 hc3 hc4 hP hD hS hl0
  exact lv_if_gt C.1 C.2.1 dg ht (fun h9 => absurd h9 h8) (fun _ => kf z hz p l e R s m args below meth c D TY A H locs cells slots mc ms ls C hK hZ hd1 hd2 hc1 hc2 hc3 hc4 hP hD hS hl0)
theorem aw_icmp_gt {x y : Int32} {off : Int} {tgt : Nat} {A B : Option T} [dec : Decidable (y < x)] (dg : decode cc pc = .ok (.if_icmp .gt off, 3)) (ht : (pc : Int) + off = (tgt : Int)) (hq : pc + 3 = q) (kt : y < x → AW own nm cc nL ret hh X d post kc ks A tgt lv st ws) (kf : ¬ (y < x) → AW own nm cc nL ret hh X d post kc ks B q lv st ws) : AW own nm cc nL ret hh X d post kc ks (if y < x then A else B) pc lv (.int y :: .int x :: st) ws := by
  subst hq
  intro z hz p l e R s m args below meth c D TY A0 H locs cells slots mc ms ls C hK hZ hd1 hd2 hc1 hc2 hc3 hc4 hP hD hS hl0
  exact lv_icmp_gt C.1 C.2.1 dg ht (fun h9 => kt h9 z (by rw [if_pos h9] at hz; exact hz) p l e R s m args below meth c D TY A0 H locs cells slots mc ms ls C hK hZ hd1 hd2 hc1 hc2 hc3 hc4 hP hD hS hl0) (fun h9 => kf h9 z (by rw [if_neg h9] at hz; exact hz) p l e R s m args below meth c D TY A0 H locs cells slots mc ms ls C hK hZ hd1 hd2 hc1 hc2 hc3 hc4 hP hD hS hl0)
theorem aw_icmp_gtT {x y : Int32} {off : Int} {tgt : Nat} (dg : decode cc pc = .ok (.if_icmp .gt off, 3)) (ht : (pc : Int) + off = (tgt : Int)) (h8 : y < x) (kt : AW own nm cc nL ret hh X d post kc ks o tgt lv st ws) : AW own nm cc nL ret hh X d post kc ks o pc lv (.int y :: .int x :: st) ws := by
  intro z hz p l e R s m args below meth c D TY A H locs cells slots mc ms ls C hK hZ hd1 hd2 hc1 hc2 hc3 hc4 hP hD hS hl0
  exact lv_icmp_gt C.1 C.2.1 dg ht (fun _ => kt z hz p l e R s m args below meth c D TY A H locs cells slots mc ms ls C hK hZ hd1 hd2 hc1 hc2 hc3 hc4 hP hD hS hl0) (fun h9 => absurd h8 h9)
theorem aw_icmp_gtF {x y : Int32} {off : Int} {tgt : Nat} (dg : decode cc pc = .ok (.if_icmp .gt off, 3)) (ht : (pc : Int) + off = (tgt : Int)) (hq : pc + 3 = q) (h8 : ¬ (y < x)) (kf : AW own nm cc nL ret hh X d post kc ks o q lv st ws) : AW own nm cc nL ret hh X d post kc ks o pc lv (.int y :: .int x :: st) ws := by
  subst hq
  intro z hz p l e R s m args below meth c D TY A H locs cells slots mc ms ls C hK hZ hd1 hd2 hc1 hc2 hc3 hc4 hP hD hS hl0
  exact lv_icmp_gt C.1 C.2.1 dg ht (fun h9 => absurd h9 h8) (fun _ => kf z hz p l e R s m args below meth c D TY A H locs cells slots mc ms ls C hK hZ hd1 hd2 hc1 hc2 hc3 hc4 hP hD hS hl0)
theorem aw_if_le {x : Int32} {off : Int} {tgt : Nat} {A B : Option T} [dec : Decidable (x ≤ 0)] (dg : decode cc pc = .ok (.ifCond .le off, 3)) (ht : (pc : Int) + off = (tgt : Int)) (hq : pc + 3 = q) (kt : x ≤ 0 → AW own nm cc nL ret hh X d post kc ks A tgt lv st ws) (kf : ¬ (x ≤ 0) → AW own nm cc nL ret hh X d post kc ks B q lv st ws) : AW own nm cc nL ret hh X d post kc ks (if x ≤ 0 then A else B) pc lv (.int x :: st) ws := by
  subst hq
  intro z hz p l e R s m args below meth c D TY A0 H locs cells slots mc ms ls C hK hZ hd1 hd2 hc1 hc2 hc3 hc4 hP hD hS hl0
  exact lv_if_le C.1 C.2.1 dg ht (fun h9 => kt h9 z (by rw [if_pos h9] at hz; exact hz) p l e R s m args below meth c D TY A0 H locs cells slots mc ms ls C hK hZ hd1 hd2 hc1 hc2 hc3 hc4 hP hD hS hl0) (fun h9 => kf h9 z (by rw [if_neg h9] at hz; exact hz) p l e R s m args below meth c D TY A0 H locs cells slots mc ms ls C hK hZ hd1 hd2 hc1 hc2 hc3 hc4 hP hD hS hl0)
theorem aw_if_leT {x : Int32} {off : Int} {tgt : Nat} (dg : decode cc pc = .ok (.ifCond .le off, 3)) (ht : (pc : Int) + off = (tgt : Int)) (h8 : x ≤ 0) (kt : AW own nm cc nL ret hh X d post kc ks o tgt lv st ws) : AW own nm cc nL ret hh X d post kc ks o pc lv (.int x :: st) ws := by
  intro z hz p l e R s m args below meth c D TY A H locs cells slots mc ms ls C hK hZ hd1 hd2 hc1 hc2 hc3 hc4 hP hD hS hl0
  exact lv_if_le C.1 C.2.1 dg ht (fun _ => kt z hz p l e R s m args below meth c D TY A H locs cells slots mc ms ls C hK hZ hd1 hd2 hc1 hc2 hc3 hc4 hP hD hS hl0) (fun h9 => absurd h8 h9)
theorem aw_if_leF {x : Int32} {off : Int} {tgt : Nat} (dg : decode cc pc = .ok (.ifCond .le off, 3)) (ht : (pc : Int) + off = (tgt : Int)) (hq : pc + 3 = q) (h8 : ¬ (x ≤ 0)) (kf : AW own nm cc nL ret hh X d post kc ks o q lv st ws) : AW own nm cc nL ret hh X d post kc ks o pc lv (.int x :: st) ws := by
  subst hq
  intro z hz p l e R s m args below meth c D TY A H locs cells slots mc ms ls C hK hZ hd1 hd2 hc1 hc2 hc3 hc4 hP hD hS hl0
  exact lv_if_le C.1 C.2.1 dg ht (fun h9 => absurd h9 h8) (fun _ => kf z hz p l e R s m args below meth c D TY A H locs cells slots mc ms ls C hK hZ hd1 hd2 hc1 hc2 hc3 hc4 hP hD hS hl0)
theorem aw_icmp_le {x y : Int32} {off : Int} {tgt : Nat} {A B : Option T} [dec : Decidable (x ≤ y)] (dg : decode cc pc = .ok (.if_icmp .le off, 3)) (ht : (pc : Int) + off = (tgt : Int)) (hq : pc + 3 = q) (kt : x ≤ y → AW own nm cc nL ret hh X d post kc ks A tgt lv st ws) (kf : ¬ (x ≤ y) → AW own nm cc nL ret hh X d post kc ks B q lv st ws) : AW own nm cc nL ret hh X d post kc ks (if x ≤ y then A else B) pc lv (.int y :: .int x :: st) ws := by
  subst hq
  intro z hz p l e R s m args below meth c D TY A0 H locs cells slots mc ms ls C hK hZ hd1 hd2 hc1 hc2 hc3 hc4 hP hD hS hl0
  exact lv_icmp_le C.1 C.2.1 dg ht (fun h9 => kt h9 z (by rw [if_pos h9] at hz; exact hz) p l e R s m args below meth c D TY A0 H locs cells slots mc ms ls C hK hZ hd1 hd2 hc1 hc2 hc3 hc4 hP hD hS hl0) (fun h9 => kf h9 z (by rw [if_neg h9] at hz; exact hz) p l e R s m args below meth c D TY A0 H locs cells slots mc ms ls C hK hZ hd1 hd2 hc1 hc2 hc3 hc4 hP hD hS hl0)
theorem aw_icmp_leT {x y : Int32} {off : Int} {tgt : Nat} (dg : decode cc pc = .ok (.if_icmp .le off, 3)) (ht : (pc : Int) + off = (tgt : Int)) (h8 : x ≤ y) (kt : AW own nm cc nL ret hh X d post kc ks o tgt lv st ws) : AW own nm cc nL ret hh X d post kc ks o pc lv (.int y :: .int x :: st) ws := by
  intro z hz p l e R s m args below meth c D TY A H locs cells slots mc ms ls C hK hZ hd1 hd2 hc1 hc2 hc3 hc4 hP hD hS hl0
  exact lv_icmp_le C.1 C.2.1 dg ht (fun _ => kt z hz p l e R s m args below meth c D TY A H locs cells slots mc ms ls C hK hZ hd1 hd2 hc1 hc2 hc3 hc4 hP hD hS hl0) (fun h9 => absurd h8 h9)
theorem aw_icmp_leF {x y : Int32} {off : Int} {tgt : Nat} (dg : decode cc pc = .ok (.if_icmp .le off, 3)) (ht : (pc : Int) + off = (tgt : Int)) (hq : pc + 3 = q) (h8 : ¬ (x ≤ y)) (kf : AW own nm cc nL ret hh X d post kc ks o q lv st ws) : AW own nm cc nL ret hh X d post kc ks o pc lv (.int y :: .int x :: st) ws := by
  subst hq
  intro z hz p l e R s m args below meth c D TY A H locs cells slots mc ms ls C hK hZ hd1 hd2 hc1 hc2 hc3 hc4 hP hD hS hl0
  exact lv_icmp_le C.1 C.2.1 dg ht (fun h9 => absurd h9 h8) (fun _ => kf z hz p l e R s m args below meth c D TY A H locs cells slots mc ms ls C hK hZ hd1 hd2 hc1 hc2 hc3 hc4 hP hD hS hl0)
theorem aw_goto {off : Int} {tgt : Nat} (dg : decode cc pc = .ok (.goto off, 3)) (ht : (pc : Int) + off = (tgt : Int)) (K : AW own nm cc nL ret hh X d post kc ks o tgt lv st ws) : AW own nm cc nL ret hh X d post kc ks o pc lv st ws := by
  intro z hz p l e R s m args below meth c D TY A H locs cells slots mc ms ls C hK hZ hd1 hd2 hc1 hc2 hc3 hc4 hP hD hS hl0
  exact lv_goto C.1 C.2.1 dg ht (K z hz p l e R s m args below meth c D TY A H locs cells slots mc ms ls C hK hZ hd1 hd2 hc1 hc2 hc3 hc4 hP hD hS hl0)
end AWR

end MG_02caw
section MG_02daw
section AWR
variable {own nm : String} {cc : ByteArray} {nL : Nat} {ret : Option FieldType} {hh : List (Nat × Nat × Nat × Nat)} {X : aX} {d : Nat} {T : Type} {post : T → aO → aW → Prop} {kc ks : Nat} {o : Option T} {pc q : Nat} {lv lv' : List (Nat × Value)} {st : List Value} {ws : aW}
theorem aw_tys {TY : Nat → ClassId} {t : Nat} (h : t < 6) : (tysOf TY)[t]? = some (TY t, tyAt t) := by
  match t, h with
  | 0, _ => rfl
  | 1, _ => rfl
  | 2, _ => rfl
  | 3, _ => rfl
  | 4, _ => rfl
  | 5, _ => rfl
/-- a field of a class of vwCl, as the class own names it at index -/
def FG (own : String) (index ci k : Nat) (ty : FieldType) (fin : Bool) : Prop := ∃ (Cn : String) (Tn : u_T) (N : Nat) (ty0 : Nat → FieldType), vwCl[ci]? = some (Cn, Tn, N) ∧ k < N ∧ (∀ w ∈ u_ws Cn Tn N, w ∈ TB) ∧ Cond.fieldLink own index (Tn k).1 (Tn k).2.1 (Tn k).2.2.1 ∈ TB ∧ (∀ j, j < N → parseFieldDescriptor (Tn j).2.2.1 = some (ty0 j)) ∧ (∀ a, a < N → ∀ b, b < N → a ≠ b → (Tn a).2.1 ≠ (Tn b).2.1) ∧ ty0 k = ty ∧ (Tn k).2.2.2 = fin
def FGN (own host : String) (index ci k : Nat) (ty : FieldType) : Prop := ∃ (Cn : String) (Tn : u_T) (N : Nat) (ty0 : Nat → FieldType), vwCl[ci]? = some (Cn, Tn, N) ∧ k < N ∧ (∀ w ∈ u_ws Cn Tn N, w ∈ TB) ∧ Cond.fieldLinkNest own index (Tn k).1 (Tn k).2.1 (Tn k).2.2.1 host ∈ NGW ∧ (∀ j, j < N → parseFieldDescriptor (Tn j).2.2.1 = some (ty0 j)) ∧ (∀ a, a < N → ∀ b, b < N → a ≠ b → (Tn a).2.1 ≠ (Tn b).2.1) ∧ ty0 k = ty ∧ (Tn k).2.2.2 = false
theorem aw_get {index ci k a : Nat} {ty : FieldType} {fin : Bool} {fs : List Value} {v : Value} (dg : decode cc pc = .ok (.getfield index, 3)) (hq : pc + 3 = q) (hf : FG own index ci k ty fin) (q0 : Nat) (he : ws[q0]? = some (a, .inr (ci, fs))) (hv : fs[k]? = some v) (K : AW own nm cc nL ret hh X d post kc ks o q lv (v :: st) ws) : AW own nm cc nL ret hh X d post kc ks o pc lv (.ref a :: st) ws := by
  subst hq
  intro z hz p l e R s m args below meth c D TY A H locs cells slots mc ms ls C hK hZ hd1 hd2 hc1 hc2 hc3 hc4 hP hD hS hl0
  obtain ⟨Cn, Tn, N, ty0, h1, h2, h3, h4, -⟩ := hf
  exact va_get C.1 C.2.1 C.2.2.2.2.2.1 h3 C.2.2.2.2.1 hK hP q0 (re_get he) h1 k h2 (C.2.2.2.2.2.1 _ h4) (fun _ h9 => h9) hv dg (K z hz p l e R s m args below meth c D TY A H locs cells slots mc ms ls C hK hZ hd1 hd2 hc1 hc2 hc3 hc4 hP hD hS hl0)
theorem aw_getN {host : String} {index ci k a : Nat} {ty : FieldType} {fs : List Value} {v : Value} (dg : decode cc pc = .ok (.getfield index, 3)) (hq : pc + 3 = q) (hf : FGN own host index ci k ty) (q0 : Nat) (he : ws[q0]? = some (a, .inr (ci, fs))) (hv : fs[k]? = some v) (K : AW own nm cc nL ret hh X d post kc ks o q lv (v :: st) ws) : AW own nm cc nL ret hh X d post kc ks o pc lv (.ref a :: st) ws := by
  subst hq
  intro z hz p l e R s m args below meth c D TY A H locs cells slots mc ms ls C hK hZ hd1 hd2 hc1 hc2 hc3 hc4 hP hD hS hl0
  obtain ⟨Cn, Tn, N, ty0, h1, h2, h3, h4, -⟩ := hf
  exact va_getN C.1 C.2.1 C.2.2.2.2.2.1 h3 C.2.2.2.2.1 hK hP q0 (re_get he) h1 k h2 (NGW_use h4 (hZ.2.2.2.2.2.1 _ h4)) (fun _ h9 => h9) hv dg (K z hz p l e R s m args below meth c D TY A H locs cells slots mc ms ls C hK hZ hd1 hd2 hc1 hc2 hc3 hc4 hP hD hS hl0)
theorem aw_put {index ci k a : Nat} {ty : FieldType} {fs : List Value} {v : Value} {ws' : aW} (dg : decode cc pc = .ok (.putfield index, 3)) (hq : pc + 3 = q) (hf : FG own index ci k ty false) (q0 : Nat) (he : ws[q0]? = some (a, .inr (ci, fs))) (hn : narrow ty v = v) (hfit : fits ty v = true) (hl : k < fs.length) (hws : ws.set q0 (a, .inr (ci, fs.set k v)) = ws') (K : AW own nm cc nL ret hh X d post kc ks o q lv st ws') : AW own nm cc nL ret hh X d post kc ks o pc lv (v :: .ref a :: st) ws := by
  subst hq
  intro z hz p l e R s m args below meth c D TY A H locs cells slots mc ms ls C hK hZ hd1 hd2 hc1 hc2 hc3 hc4 hP hD hS hl0
  obtain ⟨Cn, Tn, N, ty0, h1, h2, h3, h4, h5, h6, h7, h8⟩ := hf
  refine va_put C.1 C.2.1 C.2.2.2.2.2.1 h3 ty0 h5 h6 C.2.2.2.2.1 hK hP hD hS q0 (re_get he) h1 k h2 (C.2.2.2.2.2.1 _ h4) (fun _ h9 => h9) h8 (by rw [h5 k h2, h7]) hn hfit hl dg (fun H1 locs1 hP1 hD1 hS1 => ?_)
  have e : (re TY ws).set q0 (a, .inr (ci, fs.set k v)) = re TY ws' := by rw [← hws]; exact re_set (e := .inr (ci, fs.set k v))
  rw [e] at hP1 hD1
  exact K z hz p l _ R s m args below meth c D TY A H1 locs1 cells slots mc ms ls C hK hZ hd1 hd2 hc1 hc2 hc3 hc4 hP1 hD1 hS1 hl0
theorem aw_putN {host : String} {index ci k a : Nat} {ty : FieldType} {fs : List Value} {v : Value} {ws' : aW} (dg : decode cc pc = .ok (.putfield index, 3)) (hq : pc + 3 = q) (hf : FGN own host index ci k ty) (q0 : Nat) (he : ws[q0]? = some (a, .inr (ci, fs))) (hn : narrow ty v = v) (hfit : fits ty v = true) (hl : k < fs.length) (hws : ws.set q0 (a, .inr (ci, fs.set k v)) = ws') (K : AW own nm cc nL ret hh X d post kc ks o q lv st ws') : AW own nm cc nL ret hh X d post kc ks o pc lv (v :: .ref a :: st) ws := by
  subst hq
  intro z hz p l e R s m args below meth c D TY A H locs cells slots mc ms ls C hK hZ hd1 hd2 hc1 hc2 hc3 hc4 hP hD hS hl0
  obtain ⟨Cn, Tn, N, ty0, h1, h2, h3, h4, h5, h6, h7, h8⟩ := hf
  refine va_putN C.1 C.2.1 C.2.2.2.2.2.1 h3 ty0 h5 h6 C.2.2.2.2.1 hK hP hD hS q0 (re_get he) h1 k h2 (NGW_use h4 (hZ.2.2.2.2.2.1 _ h4)) (fun _ h9 => h9) h8 (by rw [h5 k h2, h7]) hn hfit hl dg (fun H1 locs1 hP1 hD1 hS1 => ?_)
  have e : (re TY ws).set q0 (a, .inr (ci, fs.set k v)) = re TY ws' := by rw [← hws]; exact re_set (e := .inr (ci, fs.set k v))
  rw [e] at hP1 hD1
  exact K z hz p l _ R s m args below meth c D TY A H1 locs1 cells slots mc ms ls C hK hZ hd1 hd2 hc1 hc2 hc3 hc4 hP1 hD1 hS1 hl0
/-- a final field, in its class's constructor -/
theorem aw_putF {index ci k a : Nat} {ty : FieldType} {fs : List Value} {v : Value} {ws' : aW} (dg : decode cc pc = .ok (.putfield index, 3)) (hq : pc + 3 = q) (hf : FG own index ci k ty true) (hdec : ∀ (Cn : String) (Tn : u_T) (N : Nat), vwCl[ci]? = some (Cn, Tn, N) → (Tn k).1 = own) (hnm : nm = "<init>") (q0 : Nat) (he : ws[q0]? = some (a, .inr (ci, fs))) (hn : narrow ty v = v) (hfit : fits ty v = true) (hl : k < fs.length) (hws : ws.set q0 (a, .inr (ci, fs.set k v)) = ws') (K : AW own nm cc nL ret hh X d post kc ks o q lv st ws') : AW own nm cc nL ret hh X d post kc ks o pc lv (v :: .ref a :: st) ws := by
  subst hq
  intro z hz p l e R s m args below meth c D TY A H locs cells slots mc ms ls C hK hZ hd1 hd2 hc1 hc2 hc3 hc4 hP hD hS hl0
  obtain ⟨Cn, Tn, N, ty0, h1, h2, h3, h4, h5, h6, h7, h8⟩ := hf
  refine va_putF C.1 C.2.1 C.2.2.2.2.2.1 h3 ty0 h5 h6 C.2.2.2.2.1 hK hP hD hS q0 (re_get he) h1 k h2 (C.2.2.2.2.2.1 _ h4) (fun _ h9 => h9) h8 (C.2.2.2.2.2.2.2.1.trans hnm) (hdec Cn Tn N h1) (by rw [h5 k h2, h7]) hn hfit hl dg (fun H1 locs1 hP1 hD1 hS1 => ?_)
  have e : (re TY ws).set q0 (a, .inr (ci, fs.set k v)) = re TY ws' := by rw [← hws]; exact re_set (e := .inr (ci, fs.set k v))
  rw [e] at hP1 hD1
  exact K z hz p l _ R s m args below meth c D TY A H1 locs1 cells slots mc ms ls C hK hZ hd1 hd2 hc1 hc2 hc3 hc4 hP1 hD1 hS1 hl0
theorem aw_iald {a n : Nat} {i : Int32} {f : Nat → Int32} [dec : Decidable (i < 0 ∨ n ≤ i.toNatClampNeg)] (dg : decode cc pc = .ok (.iaload, 1)) (hq : pc + 1 = q) (q0 : Nat) (ha : ws[q0]? = some (a, .inl (0, n, .inl f))) (K : AW own nm cc nL ret hh X d post kc ks o q lv (.int (f i.toNatClampNeg) :: st) ws) : AW own nm cc nL ret hh X d post kc ks (if i < 0 ∨ n ≤ i.toNatClampNeg then none else o) pc lv (.int i :: .ref a :: st) ws := by
  subst hq
  intro z hz p l e R s m args below meth c D TY A H locs cells slots mc ms ls C hK hZ hd1 hd2 hc1 hc2 hc3 hc4 hP hD hS hl0
  by_cases h9 : i < 0 ∨ n ≤ i.toNatClampNeg
  · rw [if_pos h9] at hz; cases hz
  · rw [if_neg h9] at hz
    exact va_iald C.1 C.2.1 hK hP q0 0 (re_get ha) (aw_tys (by decide)) h9 dg (K z hz p l e R s m args below meth c D TY A H locs cells slots mc ms ls C hK hZ hd1 hd2 hc1 hc2 hc3 hc4 hP hD hS hl0)
theorem aw_iast {a n : Nat} {i x : Int32} {f : Nat → Int32} {ws' : aW} [dec : Decidable (i < 0 ∨ n ≤ i.toNatClampNeg)] (dg : decode cc pc = .ok (.iastore, 1)) (hq : pc + 1 = q) (q0 : Nat) (ha : ws[q0]? = some (a, .inl (0, n, .inl f))) (hws : ws.set q0 (a, .inl (0, n, .inl (upd f i.toNatClampNeg x))) = ws') (K : AW own nm cc nL ret hh X d post kc ks o q lv st ws') : AW own nm cc nL ret hh X d post kc ks (if i < 0 ∨ n ≤ i.toNatClampNeg then none else o) pc lv (.int x :: .int i :: .ref a :: st) ws := by
  subst hq
  intro z hz p l e R s m args below meth c D TY A H locs cells slots mc ms ls C hK hZ hd1 hd2 hc1 hc2 hc3 hc4 hP hD hS hl0
  by_cases h9 : i < 0 ∨ n ≤ i.toNatClampNeg
  · rw [if_pos h9] at hz; cases hz
  · rw [if_neg h9] at hz
    refine va_iast C.1 C.2.1 hK hP hD hS q0 0 (re_get ha) (aw_tys (by decide)) h9 dg (fun H1 locs1 hP1 hD1 hS1 => ?_)
    have e : (re TY ws).set q0 (a, .inl (TY 0, n, .inl (upd f i.toNatClampNeg x))) = re TY ws' := by rw [← hws]; exact re_set (e := .inl (0, n, .inl (upd f i.toNatClampNeg x)))
    rw [e] at hP1 hD1
    exact K z hz p l _ R s m args below meth c D TY A H1 locs1 cells slots mc ms ls C hK hZ hd1 hd2 hc1 hc2 hc3 hc4 hP1 hD1 hS1 hl0
theorem aw_alen {a t : Nat} {g : vp_A} {v : Int32} (dg : decode cc pc = .ok (.arraylength, 1)) (hq : pc + 1 = q) (q0 : Nat) (ha : ws[q0]? = some (a, .inl (t, g))) (ht : t < 6) (hv : Int32.ofNat g.1 = v) (K : AW own nm cc nL ret hh X d post kc ks o q lv (.int v :: st) ws) : AW own nm cc nL ret hh X d post kc ks o pc lv (.ref a :: st) ws := by
  subst hq
  intro z hz p l e R s m args below meth c D TY A H locs cells slots mc ms ls C hK hZ hd1 hd2 hc1 hc2 hc3 hc4 hP hD hS hl0
  exact va_alen C.1 C.2.1 hK hP q0 t (re_get ha) (aw_tys ht) hv dg (K z hz p l e R s m args below meth c D TY A H locs cells slots mc ms ls C hK hZ hd1 hd2 hc1 hc2 hc3 hc4 hP hD hS hl0)
theorem aw_aald {a t n r : Nat} {i : Int32} {f : Nat → Option Nat} [dec : Decidable (i < 0 ∨ n ≤ i.toNatClampNeg)] (dg : decode cc pc = .ok (.aaload, 1)) (hq : pc + 1 = q) (q0 : Nat) (ha : ws[q0]? = some (a, .inl (t, n, .inr (.inr (.inr (.inr f)))))) (ht : t < 6) (hr : (tyAt t).isReference = true) (hfr : ¬ (i < 0 ∨ n ≤ i.toNatClampNeg) → f i.toNatClampNeg = some r) (K : AW own nm cc nL ret hh X d post kc ks o q lv (.ref r :: st) ws) : AW own nm cc nL ret hh X d post kc ks (if i < 0 ∨ n ≤ i.toNatClampNeg then none else o) pc lv (.int i :: .ref a :: st) ws := by
  subst hq
  intro z hz p l e R s m args below meth c D TY A H locs cells slots mc ms ls C hK hZ hd1 hd2 hc1 hc2 hc3 hc4 hP hD hS hl0
  by_cases h9 : i < 0 ∨ n ≤ i.toNatClampNeg
  · rw [if_pos h9] at hz; cases hz
  · rw [if_neg h9] at hz
    have hlt : i.toNatClampNeg < n := Nat.not_le.mp fun h8 => h9 (Or.inr h8)
    have hrv : va_rf (f i.toNatClampNeg) = .ref r := by rw [hfr h9]; rfl
    exact W.aald (v := .ref r) (ty := tyAt t) C.1 C.2.1 (hP q0 _ (re_get ha)) ((hK.2 t _ (aw_tys ht)).1 n (fun j => va_rf (f j))) hr (fun h8 => by cases h8) (by show ¬ (i < 0 ∨ (arrV _ _ _).slots.size ≤ _); rw [arrV_size]; exact h9) (by show (arrV _ _ _).slots[_]? = _; rw [arrV_read _ _ hlt, hrv]) rfl rfl dg (K z hz p l e R s m args below meth c D TY A H locs cells slots mc ms ls C hK hZ hd1 hd2 hc1 hc2 hc3 hc4 hP hD hS hl0)
/-- the same where the place is known -/
theorem aw_ialdT {a n : Nat} {i : Int32} {f : Nat → Int32} (h9 : ¬ (i < 0 ∨ n ≤ i.toNatClampNeg)) (dg : decode cc pc = .ok (.iaload, 1)) (hq : pc + 1 = q) (q0 : Nat) (ha : ws[q0]? = some (a, .inl (0, n, .inl f))) (K : AW own nm cc nL ret hh X d post kc ks o q lv (.int (f i.toNatClampNeg) :: st) ws) : AW own nm cc nL ret hh X d post kc ks o pc lv (.int i :: .ref a :: st) ws := by
  have h := aw_iald (i := i) dg hq q0 ha K
  rwa [if_neg h9] at h
end AWR

end MG_02daw
section MG_02eaw
section AWR
variable {own nm : String} {cc : ByteArray} {nL : Nat} {ret : Option FieldType} {hh : List (Nat × Nat × Nat × Nat)} {X : aX} {d : Nat} {T : Type} {post : T → aO → aW → Prop} {kc ks : Nat} {o : Option T} {pc q : Nat} {lv lv' : List (Nat × Value)} {st : List Value} {ws : aW}
theorem aw_iastT {a n : Nat} {i x : Int32} {f : Nat → Int32} {ws' : aW} (h9 : ¬ (i < 0 ∨ n ≤ i.toNatClampNeg)) (dg : decode cc pc = .ok (.iastore, 1)) (hq : pc + 1 = q) (q0 : Nat) (ha : ws[q0]? = some (a, .inl (0, n, .inl f))) (hws : ws.set q0 (a, .inl (0, n, .inl (upd f i.toNatClampNeg x))) = ws') (K : AW own nm cc nL ret hh X d post kc ks o q lv st ws') : AW own nm cc nL ret hh X d post kc ks o pc lv (.int x :: .int i :: .ref a :: st) ws := by
  have h := aw_iast (i := i) (x := x) dg hq q0 ha hws K
  rwa [if_neg h9] at h
theorem aw_aaldT {a t n r : Nat} {i : Int32} {f : Nat → Option Nat} (h9 : ¬ (i < 0 ∨ n ≤ i.toNatClampNeg)) (dg : decode cc pc = .ok (.aaload, 1)) (hq : pc + 1 = q) (q0 : Nat) (ha : ws[q0]? = some (a, .inl (t, n, .inr (.inr (.inr (.inr f)))))) (ht : t < 6) (hr : (tyAt t).isReference = true) (hfr : f i.toNatClampNeg = some r) (K : AW own nm cc nL ret hh X d post kc ks o q lv (.ref r :: st) ws) : AW own nm cc nL ret hh X d post kc ks o pc lv (.int i :: .ref a :: st) ws := by
  have h := aw_aald (i := i) dg hq q0 ha ht hr (fun _ => hfr) K
  rwa [if_neg h9] at h
/-- a class of vwCl that own makes -/
def NW (own : String) (index ci N : Nat) (fs : List Value) : Prop := ∃ (Cn : String) (Tn : u_T) (ty0 : Nat → FieldType), vwCl[ci]? = some (Cn, Tn, N) ∧ (∀ w ∈ u_ws Cn Tn N, w ∈ TB) ∧ (∀ j, j < N → parseFieldDescriptor (Tn j).2.2.1 = some (ty0 j)) ∧ Cond.classLink own index Cn ∈ TB ∧ Cond.instantiable Cn N ∈ TB ∧ Cond.initialized Cn ∈ TB ∧ ∀ j, j < N → defaultValue (ty0 j) = vp_V fs j
theorem aw_new {index ci N kc' ks' : Nat} {fs : List Value} {ws' : Nat → aW} (dg : decode cc pc = .ok (.new index, 3)) (hq : pc + 3 = q) (hn : NW own index ci N fs) (h1 : kc' + 1 ≤ kc) (h2 : ks' + N ≤ ks) (hws : ∀ r, ws ++ [(r, .inr (ci, fs))] = ws' r) (K : ∀ r : Nat, AW own nm cc nL ret hh X d post kc' ks' o q lv (.ref r :: st) (ws' r)) : AW own nm cc nL ret hh X d post kc ks o pc lv st ws := by
  subst hq
  intro z hz p l e R s m args below meth c D TY A H locs cells slots mc ms ls C hK hZ hd1 hd2 hc1 hc2 hc3 hc4 hP hD hS hl0
  obtain ⟨Cn, Tn, ty0, g1, g2, g3, g4, g5, g6, g7⟩ := hn
  refine va_new C.1 C.2.1 C.2.2.2.2.2.1 g2 ty0 g3 C.2.2.2.2.1 (C.2.2.2.2.2.1 _ g4) (C.2.2.2.2.2.1 _ g5) (C.2.2.2.2.2.1 _ g6) hK hP hD hS C.2.2.2.2.2.2.2.2.2.2.2 g1 g7 (by omega) (by omega) dg (fun r H1 hP1 hD1 hS1 => ?_)
  have e : re TY ws ++ [(r, .inr (ci, fs))] = re TY (ws' r) := by rw [← hws, re_app]; rfl
  rw [e] at hP1 hD1
  exact K r z hz p l _ R s m args below meth c D TY A H1 locs (cells + 1) (slots + N) mc ms ls C hK hZ hd1 hd2 hc1 hc2 (by omega) (by omega) hP1 hD1 hS1 hl0
theorem aw_cls {D : va_G} {TY : Nat → ClassId} {s : State} {t : Nat} {cA : ClassId} (hK : va_K D vwCl (tysOf TY) s) (ht : t < 6) {ty : FieldType} (hty : tyAt t = ty) (h : va_RA s cA ty) : cA = TY t := by
  subst hty
  have h0 := (hK.2 t _ (aw_tys ht)).2
  match t, ht with
  | 0, _ => exact Option.some.inj (h.symm.trans h0)
  | 1, _ => obtain ⟨_, _, _, _, _, a⟩ := h; obtain ⟨_, _, _, _, _, b⟩ := h0; exact Option.some.inj (a.symm.trans b)
  | 2, _ => obtain ⟨_, _, _, _, _, a⟩ := h; obtain ⟨_, _, _, _, _, b⟩ := h0; exact Option.some.inj (a.symm.trans b)
  | 3, _ => obtain ⟨_, _, _, _, _, a⟩ := h; obtain ⟨_, _, _, _, _, b⟩ := h0; exact Option.some.inj (a.symm.trans b)
  | 4, _ => exact Option.some.inj (h.symm.trans h0)
  | 5, _ => exact Option.some.inj (h.symm.trans h0)
theorem aw_last {D : va_G} {cl : List vw_C} {tys : List (ClassId × FieldType)} {cA : ClassId} {ty : FieldType} {s : State} (h : va_K D cl (tys ++ [(cA, ty)]) s) : va_RA s cA ty := (h.2 tys.length (cA, ty) (by simp)).2
theorem aw_newarr {t N kc' ks' : Nat} {n : Int32} {atype : ArrayType} {ws' : Nat → aW} (dg : decode cc pc = .ok (.newarray atype, 2)) (hq : pc + 2 = q) (ht : t < 6) (hty : newarray.typeOf atype = tyAt t) (hw : Cond.arrayClass (newarray.typeOf atype) ∈ TB) (ha : ∀ cA : ClassId, vp_cell cA (N, .inl (fun _ => 0)) = arrV cA N (fun _ => defaultValue (tyAt t))) (hn : ¬ n < 0) (hN : n.toNatClampNeg = N) (hb : N * componentBytes (tyAt t) ≤ 536870912) (h1 : kc' + 1 ≤ kc) (h2 : ks' + N ≤ ks) (hws : ∀ r, ws ++ [(r, .inl (t, N, .inl (fun _ => 0)))] = ws' r) (K : ∀ r : Nat, AW own nm cc nL ret hh X d post kc' ks' o q lv (.ref r :: st) (ws' r)) : AW own nm cc nL ret hh X d post kc ks o pc lv (.int n :: st) ws := by
  subst hq
  intro z hz p l e R s m args below meth c D TY A H locs cells slots mc ms ls C hK hZ hd1 hd2 hc1 hc2 hc3 hc4 hP hD hS hl0
  refine va_newa C.1 C.2.1 (C.2.2.2.2.2.1 _ hw) hty hK hP hD hS C.2.2.2.2.2.2.2.2.2.2.2 ha hn hN hb (by omega) (by omega) dg (fun r cA H1 hK1 hP1 hD1 hS1 => ?_)
  have hcA := aw_cls hK ht rfl (aw_last hK1)
  subst hcA
  have e : re TY ws ++ [(r, .inl (TY t, N, .inl (fun _ => 0)))] = re TY (ws' r) := by rw [← hws, re_app]; rfl
  rw [e] at hP1 hD1
  exact K r z hz p l _ R s m args below meth c D TY A H1 locs (cells + 1) (slots + N) mc ms ls C hK hZ hd1 hd2 hc1 hc2 (by omega) (by omega) hP1 hD1 hS1 hl0
theorem aw_anew {t N kc' ks' index : Nat} {n : Int32} {Cn : String} {ws' : Nat → aW} (dg : decode cc pc = .ok (.anewarray index, 3)) (hq : pc + 3 = q) (ht : t < 6) (hty : tyAt t = .object Cn) (hw1 : Cond.classLink own index Cn ∈ TB) (hw2 : Cn ∈ AOS) (hn : ¬ n < 0) (hN : n.toNatClampNeg = N) (hb : N * 4 ≤ 536870912) (h1 : kc' + 1 ≤ kc) (h2 : ks' + N ≤ ks) (hws : ∀ r, ws ++ [(r, .inl (t, N, .inr (.inr (.inr (.inr (fun _ => none))))))] = ws' r) (K : ∀ r : Nat, AW own nm cc nL ret hh X d post kc' ks' o q lv (.ref r :: st) (ws' r)) : AW own nm cc nL ret hh X d post kc ks o pc lv (.int n :: st) ws := by
  subst hq
  intro z hz p l e R s m args below meth c D TY A H locs cells slots mc ms ls C hK hZ hd1 hd2 hc1 hc2 hc3 hc4 hP hD hS hl0
  refine va_newq C.1 C.2.1 C.2.2.2.2.1 (C.2.2.2.2.2.1 _ hw1) (hZ.2.2.2.2.1 Cn hw2) hK hP hD hS C.2.2.2.2.2.2.2.2.2.2.2 hn hN hb (by omega) (by omega) dg (fun r cA H1 hK1 hP1 hD1 hS1 => ?_)
  have hcA := aw_cls hK ht hty (aw_last hK1)
  subst hcA
  have e : re TY ws ++ [(r, .inl (TY t, N, .inr (.inr (.inr (.inr (fun _ => none))))))] = re TY (ws' r) := by rw [← hws, re_app]; rfl
  rw [e] at hP1 hD1
  exact K r z hz p l _ R s m args below meth c D TY A H1 locs (cells + 1) (slots + N) mc ms ls C hK hZ hd1 hd2 hc1 hc2 (by omega) (by omega) hP1 hD1 hS1 hl0
theorem aw_copy {index a0 a n0 n1 : Nat} {f g : Nat → Int32} {sp dp n : Int32} {ws' : aW} (dg : decode cc pc = .ok (.invokestatic index, 3)) (hq : pc + 3 = q) (hl : Cond.methodLink own index arraycopyName ∈ TB) (hw : Cond.native arraycopyName ∈ TB ∧ Cond.static arraycopyName ∈ TB ∧ Cond.initialized "java/lang/System" ∈ TB) (hd : 2 ≤ d) (hst : (st.map fun v => v.category).sum ≤ 8) (q0 q1 : Nat) (ha0 : ws[q0]? = some (a0, .inl (0, n0, .inl f))) (ha1 : ws[q1]? = some (a, .inl (0, n1, .inl g)))
    (h1 : ¬ sp < 0) (h2 : ¬ dp < 0) (h3 : ¬ n < 0) (h4 : sp.toNatClampNeg + n.toNatClampNeg ≤ n0) (h5 : dp.toNatClampNeg + n.toNatClampNeg ≤ n1) (hws : ws.set q1 (a, .inl (0, n1, .inl (va_cpy f g sp.toNatClampNeg dp.toNatClampNeg n.toNatClampNeg))) = ws') (K : AW own nm cc nL ret hh X d post kc ks o q lv st ws') : AW own nm cc nL ret hh X d post kc ks o pc lv (.int n :: .int dp :: .ref a :: .int sp :: .ref a0 :: st) ws := by
  subst hq
  intro z hz p l e R s m args below meth c D TY A H locs cells slots mc ms ls C hK hZ hd1 hd2 hc1 hc2 hc3 hc4 hP hD hS hl0
  have h8 : nativeFrameWords "java/lang/System" "arraycopy" 5 ≤ 60 := by decide
  have h9 : (st.map fun v => v.category).sum + (nativeFrameWords "java/lang/System" "arraycopy" 5 + 11) ≤ R.locals := by omega
  refine va_copyi C.1 C.2.1 (C.2.2.1.trans hl0.1.symm) C.2.2.2.2.1 (C.2.2.2.2.2.1 _ hl) (C.2.2.2.2.2.1 _ hw.1) (C.2.2.2.2.2.1 _ hw.2.1) (C.2.2.2.2.2.1 _ hw.2.2) hK hP hD hS q0 q1 0 0 (ty := .int) (re_get ha0) (re_get ha1) (aw_tys (by decide)) (aw_tys (by decide)) rfl h1 h2 h3 h4 h5 (fun _ _ => rfl) (by omega) h9 dg (fun H1 locs1 hP1 hD1 hS1 => ?_)
  have e : (re TY ws).set q1 (a, .inl (TY 0, n1, .inl (va_cpy f g sp.toNatClampNeg dp.toNatClampNeg n.toNatClampNeg))) = re TY ws' := by rw [← hws]; exact re_set (e := .inl (0, n1, .inl (va_cpy f g sp.toNatClampNeg dp.toNatClampNeg n.toNatClampNeg)))
  rw [e] at hP1 hD1
  exact K z hz p l _ R s m args below meth c D TY A H1 locs1 cells slots mc ms ls C hK hZ hd1 hd2 hc1 hc2 hc3 hc4 hP1 hD1 hS1 hl0
/-- what a called method is: its code, that it's initialised, how many arguments -/
def MI (y : MethodName) (bytes : ByteArray) (maxL n : Nat) (ret : Option FieldType) : Prop := Cond.code y bytes maxL ret ∈ TB ∧ Cond.initialized y.cls ∈ TB ∧ (y.cls ≠ "java/lang/invoke/MethodHandle" ∧ y.cls ≠ "java/lang/invoke/VarHandle") ∧ (parseMethodDescriptor y.desc).map (fun d => d.parameters.length) = some n ∧ maxL ≤ 45
theorem ws_stay {s : State} {args : Array Value} {w0 : Cond} (hts : ∀ w ∈ TB, w.before args s = true) (h0 : w0 ∈ TB) : ∀ w ∈ w0 :: TB, ∀ (a' : Array Value) (U : State), s.WarmedH U.vm → w.before a' U = true := fun w hw => (List.mem_cons.mp hw).elim (fun e => by rw [e]; exact TB_stay hts _ h0) (fun h => TB_stay hts w h)
/-- the room of a contract at d frames -/
abbrev rmOf (d kc ks : Nat) : Room := { frames := d, cells := kc, slots := ks, locals := 64 * d }
theorem cb_of {R : Room} {s : State} {args : Array Value} {own : String} {index : Nat} {y : MethodName} {bytes : ByteArray} {maxL n d d' kc' ks' : Nat} {ret : Option FieldType} (hts : ∀ w ∈ TB, w.before args s = true) (hm : MI y bytes maxL n ret) (hl : Cond.methodLink own index y ∈ TB) (hd : d' + 1 ≤ d) (hd1 : d ≤ R.frames) (hd2 : 64 * d ≤ R.locals) :
    CallB R s args own index y bytes maxL ret (Cond.code y bytes maxL ret :: TB) (rmOf d' kc' ks') kc' ks' n := by
  obtain ⟨h1, h2, h3, h4, h5⟩ := hm
  refine ⟨rfl, rfl, by show d' + 1 ≤ R.frames; omega, by show 8 + (maxL + 11) + 64 * d' ≤ R.locals; omega, ws_stay hts h1, List.mem_cons_self, hts _ h1, hts _ h2, h3, fun sig h => ?_, hts _ hl⟩
  rw [h] at h4
  exact (Option.some.inj h4).symm
end AWR

end MG_02eaw
section MG_02faw
section AWR
variable {own nm : String} {cc : ByteArray} {nL : Nat} {ret : Option FieldType} {hh : List (Nat × Nat × Nat × Nat)} {X : aX} {d : Nat} {T : Type} {post : T → aO → aW → Prop} {kc ks : Nat} {o : Option T} {pc q : Nat} {lv lv' : List (Nat × Value)} {st : List Value} {ws : aW}
theorem cn_of {R : Room} {s : State} {args : Array Value} {own host : String} {index : Nat} {y : MethodName} {bytes : ByteArray} {maxL n d d' kc' ks' : Nat} {ret : Option FieldType} (hts : ∀ w ∈ TB, w.before args s = true) (hng : ∀ w ∈ NGW, va_Nw w s) (hm : MI y bytes maxL n ret) (hl : Cond.methodLinkNest own index y host ∈ NGW) (hd : d' + 1 ≤ d) (hd1 : d ≤ R.frames) (hd2 : 64 * d ≤ R.locals) :
    va_CN R s args own index y host bytes maxL ret (Cond.code y bytes maxL ret :: TB) (rmOf d' kc' ks') kc' ks' n := by
  obtain ⟨h1, h2, h3, h4, h5⟩ := hm
  refine ⟨⟨rfl, rfl, by show d' + 1 ≤ R.frames; omega, by show 8 + (maxL + 11) + 64 * d' ≤ R.locals; omega, ws_stay hts h1, List.mem_cons_self⟩, hts _ h1, hts _ h2, h3, fun sig h => ?_, NGW_use hl (hng _ hl)⟩
  rw [h] at h4
  exact (Option.some.inj h4).symm
/-- what a callee's contract asks, said of the caller's world -/
theorem pc_of {p : Program} {l : Launch} {s : State} {m : MethodId} {args : Array Value} {meth : Method} {c : Code} {D : va_G} {TY : Nat → ClassId} {A : Nat → Prop} {H : Heap} {locs : List Loc} {wc : aW} {is : List Nat} {As : List Value} (hK : va_K D vwCl (tysOf TY) s) (hZ : ZF A s s.heap) (hP : va_P D vwCl (re TY ws) H) (hD : va_D A (re TY ws)) (hS : va_S A s.heap H locs) (hA : ∀ q : Nat, s.heap.size ≤ q → A q) (hn : va_nd is = true) (hC : is.map (fun i => ws[i]?) = wc.map some) :
    FrameBlind (va_Pc As (fun U => U.heap.size = H.size ∧ va_P D vwCl (re TY wc) U.heap ∧ va_K D vwCl (tysOf TY) U ∧ va_D (fun _ => True) (re TY wc) ∧ ZF (va_A (re TY wc) H.size) U U.heap)) ∧
    (∀ U : State, U.heap = H → s.WarmedH U.vm → va_Pc As (fun U => U.heap.size = H.size ∧ va_P D vwCl (re TY wc) U.heap ∧ va_K D vwCl (tysOf TY) U ∧ va_D (fun _ => True) (re TY wc) ∧ ZF (va_A (re TY wc) H.size) U U.heap) As.toArray U) ∧ (∀ q, va_A (re TY wc) H.size q → A q) := by
  have hC' := re_places (TY := TY) hC
  have hF : ∀ q, va_A (re TY wc) H.size q → A q := va_free (wc := re TY wc) hD hS hA is hC'
  refine ⟨fun a U g mk q => ?_, fun U hU hW => ?_, hF⟩
  · obtain ⟨q0, q1, q2, q3, q4, q5⟩ := q
    exact ⟨q0, q1, q2, va_K.moved (u := U) (U := U.calling g mk a) (Vm.Alike.refl U.vm) q3, q4, ZF.calling q5⟩
  · exact ⟨rfl, by rw [hU], by rw [hU]; exact re_sub hP hC', va_K.moved hW.alike hK, (hD.sub is hn hC').weaken (fun _ _ _ _ => trivial), ZF.call hZ hS hU hW hF⟩
/-- behind a call -/
theorem aw_run {p : Program} {l : Launch} {e : Env} {R : Room} {s : State} {m : MethodId} {args : Array Value} {below : List Frame} {meth : Method} {c : Code} {D : va_G} {TY : Nat → ClassId} {A : Nat → Prop} {H : Heap} {locs : List Loc} {cells slots kc' ks' : Nat} {ls : Array Slot} {Q : State → Prop} {st0 : List Value} {P : aO → aW → Prop} {a : Array Value} {wc wr : aW} {isC isR : List Nat}
    (hC : isC.map (fun i => ws[i]?) = wc.map some) (hR : isR.map (fun i => ws[i]?) = wr.map some) (hn : va_nd isR = true) (hdis : ∀ i ∈ isR, i ∉ isC)
    (hP : va_P D vwCl (re TY ws) H) (hD : va_D A (re TY ws)) (hS : va_S A s.heap H locs) (hF : ∀ q, va_A (re TY wc) H.size q → A q)
    (hr : vx_Run p l e R s m args below meth c H locs cells slots kc' ks' (F0 m pc ls st0) st (QC D TY (va_A (re TY wc) H.size) P a) (XC D TY (va_A (re TY wc) H.size) P) (va_A (re TY wc) H.size))
    (kk : ∀ (v : Option Value) (w : aW) (H1 : Heap) (locs1 : List Loc), P (.inl v) w → va_P D vwCl (re TY (wr ++ w)) H1 → va_D A (re TY (wr ++ w)) → va_S A s.heap H1 locs1 → W p l e R s m args below meth c H1 locs1 (cells + kc') (slots + ks') Q (F0 m (pc + 3) ls (v.toList ++ st)))
    (kx : ∀ (E : String) (w : aW) (ce : Cell) (q9 : Addr) (H1 : Heap) (locs1 : List Loc), P (.inr E) w → va_P D vwCl (re TY (wr ++ w)) H1 → va_D A (re TY (wr ++ w)) → va_S A s.heap H1 locs1 → H1[q9]? = some ce → ce.vm = .none → s.vm.findClass E = some ce.cls → vx_W p l e R s m args below meth c H1 locs1 (cells + kc') (slots + ks') Q (F0 m pc ls st) q9) :
    W p l e R s m args below meth c H locs cells slots Q (F0 m pc ls st0) := by
  have hC' := re_places (TY := TY) hC
  have hR' := re_places (TY := TY) hR
  intro T hT Xs
  rcases hr T hT Xs with ⟨v, st₀, t, T', L, h0, X', hL, e1, e2, ⟨⟨v', w, hv, hp, hPw, hDw⟩, hFr⟩, stp⟩ | ⟨q, st₀, t, T', L, E, ce, h0, X', hL, e1, e2, ⟨⟨w, hp, hPw, hDw⟩, hFr⟩, hce, hcv, hcl, stp⟩
  · cases hv
    obtain ⟨k1, k2, k3⟩ := vx_keep h0 e1 hS (fun q _ h => hF q h) hF hL hFr
    rw [← e1] at hPw
    obtain ⟨j1, j2⟩ := va_join hP hD isC isR hC' hR' hn hdis k2 hF hPw hDw
    rw [← re_app] at j1 j2
    obtain ⟨t2, a1, b1⟩ := kk v w T'.heap (locs ++ L) hp j1 j2 k3 T' rfl X'
    exact ⟨t2, stp t2 a1, b1⟩
  · obtain ⟨k1, k2, k3⟩ := vx_keep h0 e1 hS (fun q _ h => hF q h) hF hL hFr
    rw [← e1] at hPw
    obtain ⟨j1, j2⟩ := va_join hP hD isC isR hC' hR' hn hdis k2 hF hPw hDw
    rw [← re_app] at j1 j2
    obtain ⟨t2, a1, b1⟩ := kx E w ce q T'.heap (locs ++ L) hp j1 j2 k3 (by rw [e1]; exact hce) hcv hcl T' rfl X'
    exact ⟨t2, stp.trans a1, b1⟩
/-- how a callee is reached: a row of the four (private and other instance methods, static ones, constructors; nest mates) -/
def RunOf (own : String) (cc : ByteArray) (nL d : Nat) (pc index : Nat) (y : MethodName) (w0 : Cond) (d' kc' ks' : Nat) (As : List Value) (st st0 : List Value) (ws wc : aW) (P : aO → aW → Prop) : Prop :=
  ∀ (p : Program) (l : Launch) (e : Env) (R : Room) (s : State) (m : MethodId) (args : Array Value) (below : List Frame) (meth : Method) (c : Code) (D : va_G) (TY : Nat → ClassId) (A : Nat → Prop) (H : Heap) (locs : List Loc) (cells slots : Nat) (ls : Array Slot) (is : List Nat),
    p.tables.exec = Jvm.exec → c.code = cc → c.maxLocals = nL → s.vm.findClass own = some m.cls → (∀ w ∈ TB, w.before args s = true) → l.stackTraces = false → (∀ q : Nat, s.heap.size ≤ q → A q) → va_K D vwCl (tysOf TY) s → ZF A s s.heap → d ≤ R.frames → 64 * d ≤ R.locals → cells + kc' ≤ R.cells → slots + ks' ≤ R.slots → va_P D vwCl (re TY ws) H → va_D A (re TY ws) → va_S A s.heap H locs → ls.size = nL → va_nd is = true → is.map (fun i => ws[i]?) = wc.map some → OkM y w0 d' kc' ks' As wc P →
    vx_Run p l e R s m args below meth c H locs cells slots kc' ks' (F0 m pc ls st0) st (QC D TY (va_A (re TY wc) H.size) P As.toArray) (XC D TY (va_A (re TY wc) H.size) P) (va_A (re TY wc) H.size)
theorem runV {y : MethodName} {bytes : ByteArray} {maxL n index d' kc' ks' ci b q0 : Nat} {ret' : Option FieldType} {As : List Value} {fs : List Value} {st0 : List Value} {wc : aW} {P : aO → aW → Prop} {r : vw_C} (dg : decode cc pc = .ok (.invokevirtual index, 3)) (hm : MI y bytes maxL n ret') (hi : Cond.instanceMethod y ∈ TB) (hse : Cond.selects y.cls y y ∈ TB) (hl : Cond.methodLink own index y ∈ TB) (hd : d' + 1 ≤ d) (hn : As.length = n) (hst : (st.map fun v => v.category).sum ≤ 8) (he : ws[q0]? = some (b, .inr (ci, fs))) (hc : vwCl[ci]? = some r) (hcn : r.1 = y.cls) (hst0 : st0 = As.reverse ++ .ref b :: st) :
    RunOf own cc nL d pc index y (.code y bytes maxL ret') d' kc' ks' (.ref b :: As) st st0 ws wc P := by
  subst hst0
  intro p l e R s m args below meth c D TY A H locs cells slots ls is hx hb hml hown hts hlt hA hK hZ hd1 hd2 hc1 hc2 hP hD hS hls hnd hC hok
  obtain ⟨hbl, hpc, hF⟩ := pc_of (As := .ref b :: As) (p := p) (l := l) (m := m) (args := args) (meth := meth) (c := c) hK hZ hP hD hS hA hnd hC
  have hrecv := va_recv hK hP hc (re_get he)
  rw [hcn] at hrecv
  exact vx_runV (cc := cc) (nL := nL) (Ts := TB) ⟨hx, hb, hml, hown, hts⟩ (hok l D TY H.size hlt) ⟨cb_of hts hm hl hd hd1 hd2, hts _ hi, hts _ hse⟩ ⟨hbl, hrecv, hpc⟩ rfl hn hls rfl (lv_room hst) dg ⟨hc1, hc2⟩
theorem runS {y : MethodName} {bytes : ByteArray} {maxL n index d' kc' ks' : Nat} {ret' : Option FieldType} {As : List Value} {st0 : List Value} {wc : aW} {P : aO → aW → Prop} (dg : decode cc pc = .ok (.invokestatic index, 3)) (hm : MI y bytes maxL n ret') (hi : Cond.static y ∈ TB) (hl : Cond.methodLink own index y ∈ TB) (hd : d' + 1 ≤ d) (hn : As.length = n) (hst : (st.map fun v => v.category).sum ≤ 8) (hst0 : st0 = As.reverse ++ st) :
    RunOf own cc nL d pc index y (.code y bytes maxL ret') d' kc' ks' As st st0 ws wc P := by
  subst hst0
  intro p l e R s m args below meth c D TY A H locs cells slots ls is hx hb hml hown hts hlt hA hK hZ hd1 hd2 hc1 hc2 hP hD hS hls hnd hC hok
  obtain ⟨hbl, hpc, hF⟩ := pc_of (As := As) (p := p) (l := l) (m := m) (args := args) (meth := meth) (c := c) hK hZ hP hD hS hA hnd hC
  exact vx_runS (cc := cc) (nL := nL) (Ts := TB) ⟨hx, hb, hml, hown, hts⟩ (hok l D TY H.size hlt) ⟨cb_of hts hm hl hd hd1 hd2, hts _ hi⟩ ⟨hbl, hpc⟩ rfl hn hls rfl (lv_room hst) dg ⟨hc1, hc2⟩
theorem runSN {y : MethodName} {host : String} {bytes : ByteArray} {maxL n index d' kc' ks' : Nat} {ret' : Option FieldType} {As : List Value} {st0 : List Value} {wc : aW} {P : aO → aW → Prop} (dg : decode cc pc = .ok (.invokestatic index, 3)) (hm : MI y bytes maxL n ret') (hi : Cond.static y ∈ TB) (hl : Cond.methodLinkNest own index y host ∈ NGW) (hd : d' + 1 ≤ d) (hn : As.length = n) (hst : (st.map fun v => v.category).sum ≤ 8) (hst0 : st0 = As.reverse ++ st) :
    RunOf own cc nL d pc index y (.code y bytes maxL ret') d' kc' ks' As st st0 ws wc P := by
  subst hst0
  intro p l e R s m args below meth c D TY A H locs cells slots ls is hx hb hml hown hts hlt hA hK hZ hd1 hd2 hc1 hc2 hP hD hS hls hnd hC hok
  obtain ⟨hbl, hpc, hF⟩ := pc_of (As := As) (p := p) (l := l) (m := m) (args := args) (meth := meth) (c := c) hK hZ hP hD hS hA hnd hC
  exact vx_runSN (cc := cc) (nL := nL) (Ts := TB) ⟨hx, hb, hml, hown, hts⟩ (hok l D TY H.size hlt) ⟨cn_of hts hZ.2.2.2.2.2.1 hm hl hd hd1 hd2, hts _ hi, trivial⟩ ⟨hbl, hpc⟩ rfl hn hls rfl (lv_room hst) dg ⟨hc1, hc2⟩
theorem runI {y : MethodName} {bytes : ByteArray} {maxL n index d' kc' ks' b : Nat} {As : List Value} {st0 : List Value} {wc : aW} {P : aO → aW → Prop} (dg : decode cc pc = .ok (.invokespecial index, 3)) (hm : MI y bytes maxL n none) (hy : y.name = "<init>") (hi : Cond.instanceMethod y ∈ TB) (hl : Cond.methodLink own index y ∈ TB) (hd : d' + 1 ≤ d) (hn : As.length = n) (hst : (st.map fun v => v.category).sum ≤ 8) (hst0 : st0 = As.reverse ++ .ref b :: st) :
    RunOf own cc nL d pc index y (.code y bytes maxL none) d' kc' ks' (.ref b :: As) st st0 ws wc P := by
  subst hst0
  intro p l e R s m args below meth c D TY A H locs cells slots ls is hx hb hml hown hts hlt hA hK hZ hd1 hd2 hc1 hc2 hP hD hS hls hnd hC hok
  obtain ⟨hbl, hpc, hF⟩ := pc_of (As := .ref b :: As) (p := p) (l := l) (m := m) (args := args) (meth := meth) (c := c) hK hZ hP hD hS hA hnd hC
  exact vx_runI (cc := cc) (nL := nL) (Ts := TB) ⟨hx, hb, hml, hown, hts⟩ (hok l D TY H.size hlt) ⟨cb_of hts hm hl hd hd1 hd2, hy, hts _ hi⟩ ⟨hbl, hpc⟩ rfl hn hls rfl (lv_room hst) dg ⟨hc1, hc2⟩
theorem runIN {y : MethodName} {host : String} {bytes : ByteArray} {maxL n index d' kc' ks' b : Nat} {As : List Value} {st0 : List Value} {wc : aW} {P : aO → aW → Prop} (dg : decode cc pc = .ok (.invokespecial index, 3)) (hm : MI y bytes maxL n none) (hy : y.name = "<init>") (hi : Cond.instanceMethod y ∈ TB) (hl : Cond.methodLinkNest own index y host ∈ NGW) (hd : d' + 1 ≤ d) (hn : As.length = n) (hst : (st.map fun v => v.category).sum ≤ 8) (hst0 : st0 = As.reverse ++ .ref b :: st) :
    RunOf own cc nL d pc index y (.code y bytes maxL none) d' kc' ks' (.ref b :: As) st st0 ws wc P := by
  subst hst0
  intro p l e R s m args below meth c D TY A H locs cells slots ls is hx hb hml hown hts hlt hA hK hZ hd1 hd2 hc1 hc2 hP hD hS hls hnd hC hok
  obtain ⟨hbl, hpc, hF⟩ := pc_of (As := .ref b :: As) (p := p) (l := l) (m := m) (args := args) (meth := meth) (c := c) hK hZ hP hD hS hA hnd hC
  exact vx_runIN (cc := cc) (nL := nL) (Ts := TB) ⟨hx, hb, hml, hown, hts⟩ (hok l D TY H.size hlt) ⟨cn_of hts hZ.2.2.2.2.2.1 hm hl hd hd1 hd2, hy, hts _ hi⟩ ⟨hbl, hpc⟩ rfl hn hls rfl (lv_room hst) dg ⟨hc1, hc2⟩
/-- the forms of an end: a value and a world, read off the pure value (and off the addresses of what was made) -/
def PN {U : Type} (val : U → (Nat → Nat) → Option Value) (wf : U → (Nat → Nat) → aW) : U → aO → aW → Prop := fun x o w => ∃ q : Nat → Nat, o = .inl (val x q) ∧ w = wf x q
/-- .. or E thrown, and nothing changed -/
def PX {U : Type} (val : U → (Nat → Nat) → Option Value) (wf : U → (Nat → Nat) → aW) (w0 : aW) : U ⊕ String → aO → aW → Prop := fun x o w => match x with
  | .inl x => ∃ q : Nat → Nat, o = .inl (val x q) ∧ w = wf x q
  | .inr E => o = .inr E ∧ w = w0
def xb {U V : Type} (u : Option (U ⊕ String)) (k : U → Option (V ⊕ String)) : Option (V ⊕ String) := match u with
  | none => none
  | some (.inr E) => some (.inr E)
  | some (.inl a) => k a
/-- a call of a method that doesn't throw -/
theorem aw_call {U : Type} {index d' kc' ks' kc1 ks1 : Nat} {y : MethodName} {w0 : Cond} {As st0 : List Value} {wc wr : aW} {val : U → (Nat → Nat) → Option Value} {wf : U → (Nat → Nat) → aW} {u : Option U} {Kf : U → Option T} {st1 : U → (Nat → Nat) → List Value} {ws1 : U → (Nat → Nat) → aW} (isC isR : List Nat)
    (hr : ∀ P : aO → aW → Prop, RunOf own cc nL d pc index y w0 d' kc' ks' As st st0 ws wc P) (hok : ∀ x, u = some x → OkM y w0 d' kc' ks' As wc (PN val wf x)) (hq : pc + 3 = q) (hnC : va_nd isC = true) (hC : isC.map (fun i => ws[i]?) = wc.map some) (hR : isR.map (fun i => ws[i]?) = wr.map some) (hn : va_nd isR = true) (hdis : ∀ i ∈ isR, i ∉ isC) (h1 : kc1 + kc' ≤ kc) (h2 : ks1 + ks' ≤ ks)
    (hst1 : ∀ x g, (val x g).toList ++ st = st1 x g) (hws1 : ∀ x g, wr ++ wf x g = ws1 x g) (K : ∀ x g, AW own nm cc nL ret hh X d post kc1 ks1 (Kf x) q lv (st1 x g) (ws1 x g)) : AW own nm cc nL ret hh X d post kc ks (u.bind Kf) pc lv st0 ws := by
  subst hq
  intro z hz p l e R s m args below meth c D TY A H locs cells slots mc ms ls C hK hZ hd1 hd2 hc1 hc2 hc3 hc4 hP hD hS hl0
  cases hu : u with
  | none => rw [hu] at hz; cases hz
  | some x =>
    rw [hu] at hz
    have hF := (pc_of (As := As) (p := p) (l := l) (m := m) (args := args) (meth := meth) (c := c) hK hZ hP hD hS C.2.2.2.2.2.2.2.2.2.2.2 hnC hC).2.2
    refine aw_run hC hR hn hdis hP hD hS hF (hr _ p l e R s m args below meth c D TY A H locs cells slots ls isC C.1 C.2.1 C.2.2.1 C.2.2.2.2.1 C.2.2.2.2.2.1 C.2.2.2.2.2.2.2.2.2.1 C.2.2.2.2.2.2.2.2.2.2.2 hK hZ hd1 hd2 (by omega) (by omega) hP hD hS hl0.1 hnC hC (hok x hu)) (fun v w H1 locs1 hp hP1 hD1 hS1 => ?_) (fun E w ce q9 H1 locs1 hp hP1 hD1 hS1 _ _ _ => ?_)
    · obtain ⟨g, e1, e2⟩ := hp
      cases e1
      subst e2
      rw [hws1] at hP1 hD1
      rw [hst1]
      exact K x g z hz p l e R s m args below meth c D TY A H1 locs1 (cells + kc') (slots + ks') mc ms ls C hK hZ hd1 hd2 hc1 hc2 (by omega) (by omega) hP1 hD1 hS1 hl0
    · obtain ⟨g, e1, -⟩ := hp
      cases e1
end AWR

end MG_02faw
section MG_02gaw
section AWR
variable {own nm : String} {cc : ByteArray} {nL : Nat} {ret : Option FieldType} {hh : List (Nat × Nat × Nat × Nat)} {X : aX} {d : Nat} {T : Type} {post : T → aO → aW → Prop} {kc ks : Nat} {o : Option T} {pc q : Nat} {lv lv' : List (Nat × Value)} {st : List Value} {ws : aW}
/-- a call of a method that may throw, by one that doesn't catch -/
theorem aw_callX {U V : Type} {val2 : V → (Nat → Nat) → Option Value} {wf2 : V → (Nat → Nat) → aW} {w02 : aW} {index d' kc' ks' kc1 ks1 : Nat} {y : MethodName} {w0 : Cond} {As st0 : List Value} {wc wr : aW} {val : U → (Nat → Nat) → Option Value} {wf : U → (Nat → Nat) → aW} {u : Option (U ⊕ String)} {Kf : U → Option (V ⊕ String)} {st1 : U → (Nat → Nat) → List Value} {ws1 : U → (Nat → Nat) → aW} (isC isR isX : List Nat)
    (hr : ∀ P : aO → aW → Prop, RunOf own cc nL d pc index y w0 d' kc' ks' As st st0 ws wc P) (hok : ∀ x, u = some x → OkM y w0 d' kc' ks' As wc (PX val wf wc x)) (hq : pc + 3 = q) (hhh : hh = []) (hnC : va_nd isC = true) (hC : isC.map (fun i => ws[i]?) = wc.map some) (hR : isR.map (fun i => ws[i]?) = wr.map some) (hn : va_nd isR = true) (hdis : ∀ i ∈ isR, i ∉ isC) (hnX : va_nd isX = true) (hX : isX.map (fun i => (wr ++ wc)[i]?) = w02.map some) (h1 : kc1 + kc' ≤ kc) (h2 : ks1 + ks' ≤ ks)
    (hst1 : ∀ x g, (val x g).toList ++ st = st1 x g) (hws1 : ∀ x g, wr ++ wf x g = ws1 x g) (K : ∀ x g, AW own nm cc nL ret hh X d (PX val2 wf2 w02) kc1 ks1 (Kf x) q lv (st1 x g) (ws1 x g)) : AW own nm cc nL ret hh X d (PX val2 wf2 w02) kc ks (xb u Kf) pc lv st0 ws := by
  subst hq
  intro z hz p l e R s m args below meth c D TY A H locs cells slots mc ms ls C hK hZ hd1 hd2 hc1 hc2 hc3 hc4 hP hD hS hl0
  cases hu : u with
  | none => rw [hu] at hz; cases hz
  | some x =>
    rw [hu] at hz
    have hF := (pc_of (As := As) (p := p) (l := l) (m := m) (args := args) (meth := meth) (c := c) hK hZ hP hD hS C.2.2.2.2.2.2.2.2.2.2.2 hnC hC).2.2
    refine aw_run hC hR hn hdis hP hD hS hF (hr _ p l e R s m args below meth c D TY A H locs cells slots ls isC C.1 C.2.1 C.2.2.1 C.2.2.2.2.1 C.2.2.2.2.2.1 C.2.2.2.2.2.2.2.2.2.1 C.2.2.2.2.2.2.2.2.2.2.2 hK hZ hd1 hd2 (by omega) (by omega) hP hD hS hl0.1 hnC hC (hok x hu)) (fun v w H1 locs1 hp hP1 hD1 hS1 => ?_) (fun E w ce q9 H1 locs1 hp hP1 hD1 hS1 hce hcv hcl => ?_)
    · cases x with
      | inr E => obtain ⟨e1, -⟩ := hp; cases e1
      | inl x =>
        obtain ⟨g, e1, e2⟩ := hp
        cases e1
        subst e2
        rw [hws1] at hP1 hD1
        rw [hst1]
        exact K x g z hz p l e R s m args below meth c D TY A H1 locs1 (cells + kc') (slots + ks') mc ms ls C hK hZ hd1 hd2 hc1 hc2 (by omega) (by omega) hP1 hD1 hS1 hl0
    · cases x with
      | inl x => obtain ⟨g, e1, -⟩ := hp; cases e1
      | inr E' =>
        obtain ⟨e1, e2⟩ := hp
        cases e1
        subst e2
        have hz' : z = .inr E := (Option.some.inj hz).symm
        subst hz'
        have hX' := re_places (TY := TY) hX
        refine vx_out (fun x hx => ?_) C.2.2.2.2.2.2.1 hce hcv hcl (fun t ht hvm => ⟨⟨w02, ⟨rfl, rfl⟩, by rw [ht]; exact re_sub hP1 hX', hD1.sub isX hnX hX'⟩, hS1.F ht⟩) hS1.2.2 (by omega) (by omega)
        rw [C.2.2.2.2.2.2.2.2.1, hhh] at hx
        cases hx
/-- 'throw new E(text)' -/
theorem aw_throw {V : Type} {val2 : V → (Nat → Nat) → Option Value} {wf2 : V → (Nat → Nat) → aW} {w02 : aW} {E text : String} {ik is ic : Nat} (isX : List Nat) (d0 : decode cc pc = .ok (.new ik, 3)) (d3 : decode cc (pc + 3) = .ok (.dup, 1)) (d4 : decode cc (pc + 4) = .ok (.ldc is, 2)) (d6 : decode cc (pc + 6) = .ok (.invokespecial ic, 3)) (d9 : decode cc (pc + 9) = .ok (.athrow, 1))
    (hE : Bundle.fit E = true) (hhh : hh = []) (hk : Cond.classLink own ik E ∈ TB) (hini : Cond.initialized E ∈ TB) (hs : (own, is, text) ∈ STRS) (hat : ∀ w ∈ vx_atS own ic E ["java/lang/RuntimeException", "java/lang/Exception"], w ∈ TB ∨ w ∈ NGW) (hd : 8 ≤ d) (hst : (st.map fun v => v.category).sum ≤ 8) (hnX : va_nd isX = true) (hX : isX.map (fun i => ws[i]?) = w02.map some) (h1 : 1 ≤ kc) (h2 : 6 ≤ ks) :
    AW own nm cc nL ret hh X d (PX val2 wf2 w02) kc ks (some (.inr E)) pc lv st ws := by
  intro z hz p l e R s m args below meth c D TY A H locs cells slots mc ms ls C hK hZ hd1 hd2 hc1 hc2 hc3 hc4 hP hD hS hl0
  cases hz
  obtain ⟨sa, hsa⟩ := hZ.2.2.2.1 _ hs
  have hX' := re_places (TY := TY) hX
  have hP' := re_sub hP hX'
  have hw : ∀ w, w ∈ TB ∨ w ∈ NGW → w.before args s = true := fun w h => h.elim (C.2.2.2.2.2.1 w) (fun h => NGW_use h (hZ.2.2.2.2.2.1 w h))
  have hg : ∀ w, w ∈ TB ∨ w ∈ NGW → vx_ot w = true := fun w h => h.elim (fun h => by unfold vx_ot; rw [TB_good w h, Bool.or_true]) (fun h => by unfold vx_ot; rw [ngw_tabs (List.mem_filter.mp h).2, Bool.true_or])
  refine vx_throwS (names := ["java/lang/RuntimeException", "java/lang/Exception"]) C.1 C.2.1 C.2.2.2.2.2.2.2.2.2.1 C.2.2.2.2.1 hE (by decide) (C.2.2.2.2.2.1 _ hk) (C.2.2.2.2.2.1 _ hini) hsa (fun w h => hw w (hat w h)) (fun w h => ?_) hZ.1 hZ.2.1 hS (hl0.1.trans C.2.2.1.symm) d0 d3 d4 d6 d9 (fun x hx => ?_) (by show 2 + 3 < R.frames; omega) (by show _ + (13 * 3 + 43) ≤ R.locals; omega) (by omega) (by omega) C.2.2.2.2.2.2.1 (fun t hvm hsz hq => ⟨⟨w02, ⟨rfl, rfl⟩, hP'.kept (fun k q hk => hq q.1 ((hP' k q hk).lt)), hD.sub isX hnX hX'⟩, Nat.le_trans hS.1 hsz, fun q9 g1 g2 => (hq q9 (Nat.lt_of_lt_of_le g1 hS.1)).trans (hS.2.1 q9 g1 g2)⟩) hS.2.2 (by omega) (by omega)
  · rcases List.mem_cons.mp h with rfl | h
    · exact hg _ (Or.inl hk)
    · rcases List.mem_cons.mp h with rfl | h
      · exact hg _ (Or.inl hini)
      · exact hg w (hat w h)
  · rw [C.2.2.2.2.2.2.2.2.1, hhh] at hx
    cases hx
/-- the ends -/
theorem aw_ireturn {x : T} {v : Int32} {ty : FieldType} {w : aW} (is : List Nat) (dg : decode cc pc = .ok (.ireturn, 1)) (hr : ret = some ty) (hnv : narrow ty (.int v) = .int v) (hnd : va_nd is = true) (hw : is.map (fun i => ws[i]?) = w.map some) (hp : post x (.inl (some (.int v))) w) : AW own nm cc nL ret hh X d post kc ks (some x) pc lv [.int v] ws := by
  intro z hz p l e R s m args below meth c D TY A H locs cells slots mc ms ls C hK hZ hd1 hd2 hc1 hc2 hc3 hc4 hP hD hS hl0
  cases hz
  have hw' := re_places (TY := TY) hw
  refine W.widen (k := mc) (n := ms) (by omega) (by omega) (vx_ret ?_)
  exact W.zret C.1 C.2.1 (C.2.2.2.1.trans hr) hnv (fun t ht hW => ⟨⟨_, w, rfl, hp, by rw [ht]; exact re_sub hP hw', hD.sub is hnd hw'⟩, hS.F ht⟩) hS.2.2 dg C.2.2.2.2.2.2.1
theorem aw_lreturn {x : T} {v : Int64} {w : aW} (is : List Nat) (dg : decode cc pc = .ok (.lreturn, 1)) (hr : ret = some .long) (hnd : va_nd is = true) (hw : is.map (fun i => ws[i]?) = w.map some) (hp : post x (.inl (some (.long v))) w) : AW own nm cc nL ret hh X d post kc ks (some x) pc lv [.long v] ws := by
  intro z hz p l e R s m args below meth c D TY A H locs cells slots mc ms ls C hK hZ hd1 hd2 hc1 hc2 hc3 hc4 hP hD hS hl0
  cases hz
  have hw' := re_places (TY := TY) hw
  refine W.widen (k := mc) (n := ms) (by omega) (by omega) (vx_ret ?_)
  exact W.lret C.1 C.2.1 (C.2.2.2.1.trans hr) (fun t ht hW => ⟨⟨_, w, rfl, hp, by rw [ht]; exact re_sub hP hw', hD.sub is hnd hw'⟩, hS.F ht⟩) hS.2.2 dg C.2.2.2.2.2.2.1
theorem aw_areturn {x : T} {v : Nat} {rt : FieldType} {w : aW} (is : List Nat) (dg : decode cc pc = .ok (.areturn, 1)) (hr : ret = some rt) (hrt : (∃ n, rt = .object n) ∨ ∃ t, rt = .array t) (hnd : va_nd is = true) (hw : is.map (fun i => ws[i]?) = w.map some) (hp : post x (.inl (some (.ref v))) w) : AW own nm cc nL ret hh X d post kc ks (some x) pc lv [.ref v] ws := by
  intro z hz p l e R s m args below meth c D TY A H locs cells slots mc ms ls C hK hZ hd1 hd2 hc1 hc2 hc3 hc4 hP hD hS hl0
  cases hz
  have hw' := re_places (TY := TY) hw
  refine W.widen (k := mc) (n := ms) (by omega) (by omega) (vx_ret ?_)
  exact W.aret C.1 C.2.1 (C.2.2.2.1.trans hr) hrt (Or.inr ⟨v, rfl⟩) (fun t ht hW => ⟨⟨_, w, rfl, hp, by rw [ht]; exact re_sub hP hw', hD.sub is hnd hw'⟩, hS.F ht⟩) hS.2.2 dg C.2.2.2.2.2.2.1
theorem aw_return {x : T} {w : aW} (is : List Nat) (dg : decode cc pc = .ok (.return_, 1)) (hr : ret = none) (hnd : va_nd is = true) (hw : is.map (fun i => ws[i]?) = w.map some) (hp : post x (.inl none) w) : AW own nm cc nL ret hh X d post kc ks (some x) pc lv [] ws := by
  intro z hz p l e R s m args below meth c D TY A H locs cells slots mc ms ls C hK hZ hd1 hd2 hc1 hc2 hc3 hc4 hP hD hS hl0
  cases hz
  have hw' := re_places (TY := TY) hw
  refine W.widen (k := mc) (n := ms) (by omega) (by omega) (vx_ret ?_)
  exact W.vret C.1 C.2.1 (C.2.2.2.1.trans hr) (fun t ht hW => ⟨⟨_, w, rfl, hp, by rw [ht]; exact re_sub hP hw', hD.sub is hnd hw'⟩, hS.F ht⟩) hS.2.2 dg C.2.2.2.2.2.2.1
/-- a constructor's call of Object's -/
theorem aw_objInit {index a : Nat} (dg : decode cc pc = .ok (.invokespecial index, 3)) (hq : pc + 3 = q) (hl : Cond.methodLink own index objectInit ∈ TB) (hw : Cond.instanceMethod objectInit ∈ TB ∧ Cond.code objectInit ⟨#[0xb1]⟩ 1 none ∈ TB) (hd : 1 ≤ d) (hst : (st.map fun v => v.category).sum ≤ 8) (K : AW own nm cc nL ret hh X d post kc ks o q lv st ws) : AW own nm cc nL ret hh X d post kc ks o pc lv (.ref a :: st) ws := by
  subst hq
  intro z hz p l e R s m args below meth c D TY A H locs cells slots mc ms ls C hK hZ hd1 hd2 hc1 hc2 hc3 hc4 hP hD hS hl0
  refine W.objInit C.1 C.2.1 C.2.2.2.2.1 (C.2.2.2.2.2.1 _ hl) (C.2.2.2.2.2.1 _ hw.1) (C.2.2.2.2.2.1 _ hw.2) rfl (hl0.1.trans C.2.2.1.symm) rfl dg (by omega) (by show 2 * 0 + _ + 12 ≤ R.locals; omega) ?_
  exact K z hz p l e R s m args below meth c D TY A H locs cells slots mc ms ls C hK hZ hd1 hd2 hc1 hc2 hc3 hc4 hP hD hS hl0
theorem aw_ldc {index : Nat} {v : Int32} (dg : decode cc pc = .ok (.ldc index, 2)) (hq : pc + 2 = q) (hw : Cond.constant own index v ∈ TB) (K : AW own nm cc nL ret hh X d post kc ks o q lv (.int v :: st) ws) : AW own nm cc nL ret hh X d post kc ks o pc lv st ws := by
  subst hq
  intro z hz p l e R s m args below meth c D TY A H locs cells slots mc ms ls C hK hZ hd1 hd2 hc1 hc2 hc3 hc4 hP hD hS hl0
  exact lv_ldc C.1 C.2.1 C.2.2.2.2.1 (C.2.2.2.2.2.1 _ hw) dg (K z hz p l e R s m args below meth c D TY A H locs cells slots mc ms ls C hK hZ hd1 hd2 hc1 hc2 hc3 hc4 hP hD hS hl0)
theorem aw_ldcw {index : Nat} {v : Int32} (dg : decode cc pc = .ok (.ldc_w index, 3)) (hq : pc + 3 = q) (hw : Cond.constant own index v ∈ TB) (K : AW own nm cc nL ret hh X d post kc ks o q lv (.int v :: st) ws) : AW own nm cc nL ret hh X d post kc ks o pc lv st ws := by
  subst hq
  intro z hz p l e R s m args below meth c D TY A H locs cells slots mc ms ls C hK hZ hd1 hd2 hc1 hc2 hc3 hc4 hP hD hS hl0
  exact lv_ldcw C.1 C.2.1 C.2.2.2.2.1 (C.2.2.2.2.2.1 _ hw) dg (K z hz p l e R s m args below meth c D TY A H locs cells slots mc ms ls C hK hZ hd1 hd2 hc1 hc2 hc3 hc4 hP hD hS hl0)
theorem aw_ldc2 {index : Nat} {v : Int64} (dg : decode cc pc = .ok (.ldc2_w index, 3)) (hq : pc + 3 = q) (hw : Cond.constantLong own index v ∈ TB) (K : AW own nm cc nL ret hh X d post kc ks o q lv (.long v :: st) ws) : AW own nm cc nL ret hh X d post kc ks o pc lv st ws := by
  subst hq
  intro z hz p l e R s m args below meth c D TY A H locs cells slots mc ms ls C hK hZ hd1 hd2 hc1 hc2 hc3 hc4 hP hD hS hl0
  exact lv_ldc2 C.1 C.2.1 C.2.2.2.2.1 (C.2.2.2.2.2.1 _ hw) dg (K z hz p l e R s m args below meth c D TY A H locs cells slots mc ms ls C hK hZ hd1 hd2 hc1 hc2 hc3 hc4 hP hD hS hl0)
/-- switches, a case after the other -/
theorem aw_tsw {x v : Int32} {dflt lo hi off : Int} {offs : Array Int} {len tgt : Nat} {A1 B : Option T} [dec : Decidable (x = v)] (dg : decode cc pc = .ok (.tableswitch dflt lo hi offs, len)) (h1 : ¬ v.toInt < lo) (h2 : ¬ hi < v.toInt) (ho : offs[(v.toInt - lo).toNat]? = some off) (ht : (pc : Int) + off = (tgt : Int)) (kt : x = v → AW own nm cc nL ret hh X d post kc ks A1 tgt lv st ws) (kf : ¬ x = v → AW own nm cc nL ret hh X d post kc ks B pc lv (.int x :: st) ws) : AW own nm cc nL ret hh X d post kc ks (if x = v then A1 else B) pc lv (.int x :: st) ws := by
  by_cases h9 : x = v
  · intro z hz p l e R s m args below meth c D TY A H locs cells slots mc ms ls C hK hZ hd1 hd2 hc1 hc2 hc3 hc4 hP hD hS hl0
    rw [if_pos h9] at hz
    have k := kt h9
    subst h9
    exact lv_tableIn C.1 C.2.1 dg h1 h2 ho ht (k z hz p l e R s m args below meth c D TY A H locs cells slots mc ms ls C hK hZ hd1 hd2 hc1 hc2 hc3 hc4 hP hD hS hl0)
  · rw [if_neg h9]
    exact kf h9
theorem aw_tswD {x : Int32} {dflt lo hi : Int} {offs : Array Int} {len tgt : Nat} (dg : decode cc pc = .ok (.tableswitch dflt lo hi offs, len)) (h : x.toInt < lo ∨ hi < x.toInt) (ht : (pc : Int) + dflt = (tgt : Int)) (K : AW own nm cc nL ret hh X d post kc ks o tgt lv st ws) : AW own nm cc nL ret hh X d post kc ks o pc lv (.int x :: st) ws := by
  intro z hz p l e R s m args below meth c D TY A H locs cells slots mc ms ls C hK hZ hd1 hd2 hc1 hc2 hc3 hc4 hP hD hS hl0
  exact lv_tableOut C.1 C.2.1 dg h ht (K z hz p l e R s m args below meth c D TY A H locs cells slots mc ms ls C hK hZ hd1 hd2 hc1 hc2 hc3 hc4 hP hD hS hl0)
/-- the contract out of the walk -/
theorem ok_of {y : MethodName} {bytes : ByteArray} {args : List Value} {x : T} (hy : plainName y.cls = true) (hlen : (lg_sl args).length ≤ nL) (hox : o = some x) (K : AW y.cls y.name bytes nL ret [] (fun _ _ => True) d post kc ks o 0 (lv_args 0 args) [] ws) : OkM y (.code y bytes nL ret) d kc ks args ws (post x) := by
  intro l D TY sz hlt
  refine vx_ofW (cc := bytes) (maxL := nL) (ret := ret) hy rfl ?_
  intro p e s m args' below meth c s₁ B hml hex hv
  obtain ⟨rfl, hsz, hP, hK, hD0, hZ⟩ := hv
  subst hsz
  have hts := atoms_spec (ws := Cond.code y bytes nL ret :: TB) B.pre
  have hD := hD0.self (sz := s.heap.size)
  have hl := lv_entry args (n := nL) hlen
  rw [lg_entry_eq]
  have hnm : meth.name = y.name := (name_of_methodNamed B.named B.method).1
  have het : c.exceptionTable.toList = tableOf [] := by
    show c.exceptionTable.toList = []
    exact List.eq_nil_iff_forall_not_mem.mpr (fun a ha => hex a ha)
  exact K x hox p l e _ s m args.toArray below meth c D TY (va_A (re TY ws) s.heap.size) s.heap [] 0 0 kc ks _ ⟨B.exec, B.bytes, hml, B.returns, findClass_of_methodNamed B.named, fun w h => hts w (List.mem_cons_of_mem _ h), B.notSynchronized, hnm, het, hlt, trivial, fun q h => Or.inr h⟩ hK hZ (Nat.le_refl _) (Nat.le_refl _) (Nat.le_refl _) (Nat.le_refl _) (by omega) (by omega) hP hD va_S.rf hl
end AWR

end MG_02gaw
section MG_02haw
section AWR
variable {own nm : String} {cc : ByteArray} {nL : Nat} {ret : Option FieldType} {hh : List (Nat × Nat × Nat × Nat)} {X : aX} {d : Nat} {T : Type} {post : T → aO → aW → Prop} {kc ks : Nat} {o : Option T} {pc q : Nat} {lv lv' : List (Nat × Value)} {st : List Value} {ws : aW}
theorem PN.mk {U : Type} {val : U → (Nat → Nat) → Option Value} {wf : U → (Nat → Nat) → aW} {x : U} {v : Option Value} {w : aW} (g : Nat → Nat) (h1 : val x g = v) (h2 : wf x g = w) : PN val wf x (.inl v) w := ⟨g, by rw [h1], h2.symm⟩
theorem PX.mk {U : Type} {val : U → (Nat → Nat) → Option Value} {wf : U → (Nat → Nat) → aW} {w0 : aW} {x : U} {v : Option Value} {w : aW} (g : Nat → Nat) (h1 : val x g = v) (h2 : wf x g = w) : PX val wf w0 (.inl x) (.inl v) w := ⟨g, by rw [h1], h2.symm⟩
theorem aw_zreturn {x : T} {v : Int32} {w : aW} [dec : Decidable (v = 0 ∨ v = 1)] (is : List Nat) (dg : decode cc pc = .ok (.ireturn, 1)) (hr : ret = some .boolean) (hnd : va_nd is = true) (hw : is.map (fun i => ws[i]?) = w.map some) (hp : post x (.inl (some (.int v))) w) : AW own nm cc nL ret hh X d post kc ks (if v = 0 ∨ v = 1 then some x else none) pc lv [.int v] ws := by
  by_cases h : v = 0 ∨ v = 1
  · rw [if_pos h]
    refine aw_ireturn is dg hr ?_ hnd hw hp
    rcases h with rfl | rfl <;> rfl
  · rw [if_neg h]; exact aw_none
theorem at_of {L : List Cond} (h : (L.all fun w => (decide (w ∈ tables_1) && goodWord w) || (decide (w ∈ tables_1) && ngw w) || decide (w ∈ TB)) = true) : ∀ w ∈ L, w ∈ TB ∨ w ∈ NGW := by
  intro w hw
  have h1 := List.all_eq_true.mp h w hw
  simp only [Bool.or_eq_true, Bool.and_eq_true, decide_eq_true_eq] at h1
  rcases h1 with (⟨a, b⟩ | ⟨a, b⟩) | a
  · exact Or.inl (TB_in (List.mem_append_right _ a) b)
  · exact Or.inr (List.mem_filter.mpr ⟨a, b⟩)
  · exact Or.inl a
theorem aw_lsw {x v : Int32} {dflt off : Int} {ps : Array (Int × Int)} {len tgt : Nat} {A1 B : Option T} [dec : Decidable (x = v)] (dg : decode cc pc = .ok (.lookupswitch dflt ps, len)) (hp : (ps.toList.zip (ps.toList.drop 1)).all (fun (a, next) => a.1 < next.1) = true) (ho : Op.lookupswitch.offset ps.toList dflt v.toInt = off) (ht : (pc : Int) + off = (tgt : Int)) (kt : x = v → AW own nm cc nL ret hh X d post kc ks A1 tgt lv st ws) (kf : ¬ x = v → AW own nm cc nL ret hh X d post kc ks B pc lv (.int x :: st) ws) : AW own nm cc nL ret hh X d post kc ks (if x = v then A1 else B) pc lv (.int x :: st) ws := by
  by_cases h9 : x = v
  · intro z hz p l e R s m args below meth c D TY A H locs cells slots mc ms ls C hK hZ hd1 hd2 hc1 hc2 hc3 hc4 hP hD hS hl0
    rw [if_pos h9] at hz
    have k := kt h9
    subst h9
    exact lv_lookup C.1 C.2.1 dg hp ho ht (k z hz p l e R s m args below meth c D TY A H locs cells slots mc ms ls C hK hZ hd1 hd2 hc1 hc2 hc3 hc4 hP hD hS hl0)
  · rw [if_neg h9]
    exact kf h9
theorem aw_lswD {x : Int32} {dflt off : Int} {ps : Array (Int × Int)} {len tgt : Nat} (dg : decode cc pc = .ok (.lookupswitch dflt ps, len)) (hp : (ps.toList.zip (ps.toList.drop 1)).all (fun (a, next) => a.1 < next.1) = true) (ho : Op.lookupswitch.offset ps.toList dflt x.toInt = off) (ht : (pc : Int) + off = (tgt : Int)) (K : AW own nm cc nL ret hh X d post kc ks o tgt lv st ws) : AW own nm cc nL ret hh X d post kc ks o pc lv (.int x :: st) ws := by
  intro z hz p l e R s m args below meth c D TY A H locs cells slots mc ms ls C hK hZ hd1 hd2 hc1 hc2 hc3 hc4 hP hD hS hl0
  exact lv_lookup C.1 C.2.1 dg hp ho ht (K z hz p l e R s m args below meth c D TY A H locs cells slots mc ms ls C hK hZ hd1 hd2 hc1 hc2 hc3 hc4 hP hD hS hl0)
/-- 'throw new E(text)', the text by a wide index -/
theorem aw_throwW {V : Type} {val2 : V → (Nat → Nat) → Option Value} {wf2 : V → (Nat → Nat) → aW} {w02 : aW} {E text : String} {ik is ic : Nat} (isX : List Nat) (d0 : decode cc pc = .ok (.new ik, 3)) (d3 : decode cc (pc + 3) = .ok (.dup, 1)) (d4 : decode cc (pc + 4) = .ok (.ldc_w is, 3)) (d7 : decode cc (pc + 7) = .ok (.invokespecial ic, 3)) (d10 : decode cc (pc + 10) = .ok (.athrow, 1))
    (hE : Bundle.fit E = true) (hhh : hh = []) (hk : Cond.classLink own ik E ∈ TB) (hini : Cond.initialized E ∈ TB) (hs : (own, is, text) ∈ STRS) (hat : ∀ w ∈ vx_atS own ic E ["java/lang/RuntimeException", "java/lang/Exception"], w ∈ TB ∨ w ∈ NGW) (hd : 8 ≤ d) (hst : (st.map fun v => v.category).sum ≤ 8) (hnX : va_nd isX = true) (hX : isX.map (fun i => ws[i]?) = w02.map some) (h1 : 1 ≤ kc) (h2 : 6 ≤ ks) :
    AW own nm cc nL ret hh X d (PX val2 wf2 w02) kc ks (some (.inr E)) pc lv st ws := by
  intro z hz p l e R s m args below meth c D TY A H locs cells slots mc ms ls C hK hZ hd1 hd2 hc1 hc2 hc3 hc4 hP hD hS hl0
  cases hz
  obtain ⟨sa, hsa⟩ := hZ.2.2.2.1 _ hs
  have hX' := re_places (TY := TY) hX
  have hP' := re_sub hP hX'
  have hw : ∀ w, w ∈ TB ∨ w ∈ NGW → w.before args s = true := fun w h => h.elim (C.2.2.2.2.2.1 w) (fun h => NGW_use h (hZ.2.2.2.2.2.1 w h))
  have hg : ∀ w, w ∈ TB ∨ w ∈ NGW → vx_ot w = true := fun w h => h.elim (fun h => by unfold vx_ot; rw [TB_good w h, Bool.or_true]) (fun h => by unfold vx_ot; rw [ngw_tabs (List.mem_filter.mp h).2, Bool.true_or])
  refine vx_throwSW (names := ["java/lang/RuntimeException", "java/lang/Exception"]) C.1 C.2.1 C.2.2.2.2.2.2.2.2.2.1 C.2.2.2.2.1 hE (by decide) (C.2.2.2.2.2.1 _ hk) (C.2.2.2.2.2.1 _ hini) hsa (fun w h => hw w (hat w h)) (fun w h => ?_) hZ.1 hZ.2.1 hS (hl0.1.trans C.2.2.1.symm) d0 d3 d4 d7 d10 (fun x hx => ?_) (by show 2 + 3 < R.frames; omega) (by show _ + (13 * 3 + 43) ≤ R.locals; omega) (by omega) (by omega) C.2.2.2.2.2.2.1 (fun t hvm hsz hq => ⟨⟨w02, ⟨rfl, rfl⟩, hP'.kept (fun k q hk => hq q.1 ((hP' k q hk).lt)), hD.sub isX hnX hX'⟩, Nat.le_trans hS.1 hsz, fun q9 g1 g2 => (hq q9 (Nat.lt_of_lt_of_le g1 hS.1)).trans (hS.2.1 q9 g1 g2)⟩) hS.2.2 (by omega) (by omega)
  · rcases List.mem_cons.mp h with rfl | h
    · exact hg _ (Or.inl hk)
    · rcases List.mem_cons.mp h with rfl | h
      · exact hg _ (Or.inl hini)
      · exact hg w (hat w h)
  · rw [C.2.2.2.2.2.2.2.2.1, hhh] at hx
    cases hx
theorem aw_aast {a t n v ci qk : Nat} {i : Int32} {f : Nat → Option Nat} {vs : List Value} {r : vw_C} {ws' : aW} (dg : decode cc pc = .ok (.aastore, 1)) (hq : pc + 1 = q) (q0 : Nat) (ha : ws[q0]? = some (a, .inl (t, n, .inr (.inr (.inr (.inr f)))))) (ht : t < 6) (hv : ws[qk]? = some (v, .inr (ci, vs))) (hc : vwCl[ci]? = some r) (hty : tyAt t = .object r.1) (h9 : ¬ (i < 0 ∨ n ≤ i.toNatClampNeg)) (hws : ws.set q0 (a, .inl (t, n, .inr (.inr (.inr (.inr (va_up f i.toNatClampNeg (some v))))))) = ws') (K : AW own nm cc nL ret hh X d post kc ks o q lv st ws') : AW own nm cc nL ret hh X d post kc ks o pc lv (.ref v :: .int i :: .ref a :: st) ws := by
  subst hq
  intro z hz p l e R s m args below meth c D TY A H locs cells slots mc ms ls C hK hZ hd1 hd2 hc1 hc2 hc3 hc4 hP hD hS hl0
  have hty' : (tysOf TY)[t]? = some (TY t, .object r.1) := by rw [aw_tys ht, hty]
  refine va_astq C.1 C.2.1 hK hP hD hS q0 t qk ci (re_get ha) hty' (re_get hv) hc h9 dg (fun H1 locs1 hP1 hD1 hS1 => ?_)
  have e : (re TY ws).set q0 (a, .inl (TY t, n, .inr (.inr (.inr (.inr (va_up f i.toNatClampNeg (some v))))))) = re TY ws' := by rw [← hws]; exact re_set (e := .inl (t, n, .inr (.inr (.inr (.inr (va_up f i.toNatClampNeg (some v)))))))
  rw [e] at hP1 hD1
  exact K z hz p l _ R s m args below meth c D TY A H1 locs1 cells slots mc ms ls C hK hZ hd1 hd2 hc1 hc2 hc3 hc4 hP1 hD1 hS1 hl0
/-- new int[n][k] -/
theorem aw_mna {index N M kc' ks' : Nat} {n k : Int32} {ws' : Nat → (Nat → Nat) → aW} (dg : decode cc pc = .ok (.multianewarray index 2, 4)) (hq : pc + 4 = q) (hw1 : Cond.classLink own index ("[" ++ (FieldType.array .int).toString) ∈ TB) (hw2 : Cond.arrayClass .int ∈ TB) (hn : ¬ n < 0) (hk : ¬ k < 0) (hN : n.toNatClampNeg = N) (hM : k.toNatClampNeg = M) (hb1 : N * 4 ≤ 536870912) (hb2 : M * componentBytes .int ≤ 536870912) (hb3 : M ≤ 536870912) (h1 : kc' + (1 + N) ≤ kc) (h2 : ks' + (N + N * M) ≤ ks)
    (hws : ∀ r g, (ws ++ [(r, .inl (4, N, .inr (.inr (.inr (.inr (fun i => if i < N then some (g i) else none))))))]) ++ (List.range N).map (fun i => (g i, .inl (0, M, .inl (fun _ => 0)))) = ws' r g) (K : ∀ (r : Nat) (g : Nat → Nat), AW own nm cc nL ret hh X d post kc' ks' o q lv (.ref r :: st) (ws' r g)) : AW own nm cc nL ret hh X d post kc ks o pc lv (.int k :: .int n :: st) ws := by
  subst hq
  intro z hz p l e R s m args below meth c D TY A H locs cells slots mc ms ls C hK hZ hd1 hd2 hc1 hc2 hc3 hc4 hP hD hS hl0
  have hcy : s.vm.findClass (FieldType.array .int).toString = some (TY 0) := (hK.2 0 _ (aw_tys (by decide))).2
  have e0 : re TY ws = re TY ws ++ va_pl [] (fun _ => .inr (0, [])) := by simp [va_pl]
  have hP0 := hP
  have hD0 := hD
  rw [e0] at hP0 hD0
  refine va_mna (ty := .int) (z := (M, .inl (fun _ => 0))) C.1 C.2.1 C.2.2.2.2.1 (C.2.2.2.2.2.1 _ hw1) hZ.2.2.2.2.2.2.1 (C.2.2.2.2.2.1 _ hw2) hcy hK hP0 hD0 hS C.2.2.2.2.2.2.2.2.2.2.2 hn hk hN hM hb1 hb2 hb3 rfl rfl (by omega) (by omega) (fun cA => ?_) dg (fun r g cA H1 _ _ hK1 hP1 hD1 hS1 => ?_)
  · show ({ cls := cA, slots := Array.replicate M (.int 0), vm := .none } : Cell) = vp_cell cA (M, .inl (fun _ => 0))
    rw [arrV_new]; rfl
  · have hcA := aw_cls hK (t := 4) (by decide) rfl (aw_last hK1)
    subst hcA
    have e : (re TY ws ++ [(r, .inl (TY 4, N, .inr (.inr (.inr (.inr (fun i => if i < N then some (g i) else none))))))]) ++ va_pl ([] ++ (List.range N).map g) (vr_up (fun _ => .inr (0, [])) ((List.range N).map g) (.inl (TY 0, (M, .inl (fun _ => 0))))) = re TY (ws' r g) := by
      rw [← hws, re_app, re_app]
      congr 1
      rw [List.nil_append]
      unfold va_pl re
      rw [List.map_map, List.map_map]
      refine List.map_congr_left (fun i hi => ?_)
      show (g i, vr_up _ _ _ (g i)) = _
      rw [vr_up_in (List.mem_map.mpr ⟨i, hi, rfl⟩)]
      rfl
    rw [e] at hP1 hD1
    have hs1 : slots + N + N * M + ks' ≤ ms := by omega
    exact K r g z hz p l _ R s m args below meth c D TY A H1 locs (cells + 1 + N) (slots + N + N * M) mc ms ls C hK hZ hd1 hd2 hc1 hc2 (by omega) hs1 hP1 hD1 hS1 hl0
/-! ===== bytes, texts, the JDK's StringBuilder ===== -/
theorem gin {L : List Cond} (h : ∀ w ∈ L, w ∈ TB) : GoodIn TB L := fun w hw => ⟨h w hw, good_of_word (TB_good w (h w hw))⟩
theorem aw_getsC {index : Nat} (dg : decode cc pc = .ok (.getstatic index, 3)) (hq : pc + 3 = q) (hl : Cond.fieldLink own index "java/lang/String" "COMPACT_STRINGS" "Z" ∈ TB) (K : AW own nm cc nL ret hh X d post kc ks o q lv (.int 1 :: st) ws) : AW own nm cc nL ret hh X d post kc ks o pc lv st ws := by
  subst hq
  intro z hz p l e R s m args below meth c D TY A H locs cells slots mc ms ls C hK hZ hd1 hd2 hc1 hc2 hc3 hc4 hP hD hS hl0
  exact va_gets C.1 C.2.1 hZ.2.2.1 hS C.2.2.2.2.1 (C.2.2.2.2.2.1 _ hl) (fun _ h9 => h9) dg (K z hz p l e R s m args below meth c D TY A H locs cells slots mc ms ls C hK hZ hd1 hd2 hc1 hc2 hc3 hc4 hP hD hS hl0)
theorem aw_ldcS {index : Nat} {tx : String} (dg : decode cc pc = .ok (.ldc index, 2)) (hq : pc + 2 = q) (hs : (own, index, tx) ∈ STRS) (K : ∀ r : Nat, AW own nm cc nL ret hh X d post kc ks o q lv (.ref r :: st) ws) : AW own nm cc nL ret hh X d post kc ks o pc lv st ws := by
  subst hq
  intro z hz p l e R s m args below meth c D TY A H locs cells slots mc ms ls C hK hZ hd1 hd2 hc1 hc2 hc3 hc4 hP hD hS hl0
  obtain ⟨sa, hsa⟩ := hZ.2.2.2.1 _ hs
  exact va_ldcS C.1 C.2.1 C.2.2.2.2.1 hsa dg (K sa z hz p l e R s m args below meth c D TY A H locs cells slots mc ms ls C hK hZ hd1 hd2 hc1 hc2 hc3 hc4 hP hD hS hl0)
theorem aw_null (dg : decode cc pc = .ok (.aconst_null, 1)) (hq : pc + 1 = q) (K : AW own nm cc nL ret hh X d post kc ks o q lv (.null :: st) ws) : AW own nm cc nL ret hh X d post kc ks o pc lv st ws := by
  subst hq
  intro z hz p l e R s m args below meth c D TY A H locs cells slots mc ms ls C hK hZ hd1 hd2 hc1 hc2 hc3 hc4 hP hD hS hl0
  exact lv_null C.1 C.2.1 dg (K z hz p l e R s m args below meth c D TY A H locs cells slots mc ms ls C hK hZ hd1 hd2 hc1 hc2 hc3 hc4 hP hD hS hl0)
end AWR

end MG_02haw
section MG_02iaw
section AWR
variable {own nm : String} {cc : ByteArray} {nL : Nat} {ret : Option FieldType} {hh : List (Nat × Nat × Nat × Nat)} {X : aX} {d : Nat} {T : Type} {post : T → aO → aW → Prop} {kc ks : Nat} {o : Option T} {pc q : Nat} {lv lv' : List (Nat × Value)} {st : List Value} {ws : aW}
theorem aw_i2b {x : Int32} (dg : decode cc pc = .ok (.i2b, 1)) (hq : pc + 1 = q) (K : AW own nm cc nL ret hh X d post kc ks o q lv (.int x.toInt8.toInt32 :: st) ws) : AW own nm cc nL ret hh X d post kc ks o pc lv (.int x :: st) ws := by
  subst hq
  intro z hz p l e R s m args below meth c D TY A H locs cells slots mc ms ls C hK hZ hd1 hd2 hc1 hc2 hc3 hc4 hP hD hS hl0
  exact lv_i2b C.1 C.2.1 dg rfl (K z hz p l e R s m args below meth c D TY A H locs cells slots mc ms ls C hK hZ hd1 hd2 hc1 hc2 hc3 hc4 hP hD hS hl0)
theorem aw_bast {a n : Nat} {i x : Int32} {f : Nat → Int32} {ws' : aW} [dec : Decidable (i < 0 ∨ n ≤ i.toNatClampNeg)] (dg : decode cc pc = .ok (.bastore, 1)) (hq : pc + 1 = q) (q0 : Nat) (ha : ws[q0]? = some (a, .inl (5, n, .inl f))) (hws : ws.set q0 (a, .inl (5, n, .inl (upd f i.toNatClampNeg (vp_nar .byte x)))) = ws') (K : AW own nm cc nL ret hh X d post kc ks o q lv st ws') : AW own nm cc nL ret hh X d post kc ks (if i < 0 ∨ n ≤ i.toNatClampNeg then none else o) pc lv (.int x :: .int i :: .ref a :: st) ws := by
  subst hq
  intro z hz p l e R s m args below meth c D TY A H locs cells slots mc ms ls C hK hZ hd1 hd2 hc1 hc2 hc3 hc4 hP hD hS hl0
  by_cases h9 : i < 0 ∨ n ≤ i.toNatClampNeg
  · rw [if_pos h9] at hz; cases hz
  · rw [if_neg h9] at hz
    refine va_bast C.1 C.2.1 hK hP hD hS q0 5 (re_get ha) (aw_tys (by decide)) h9 dg (fun H1 locs1 hP1 hD1 hS1 => ?_)
    have e : (re TY ws).set q0 (a, .inl (TY 5, n, .inl (upd f i.toNatClampNeg (vp_nar .byte x)))) = re TY ws' := by rw [← hws]; exact re_set (e := .inl (5, n, .inl (upd f i.toNatClampNeg (vp_nar .byte x))))
    rw [e] at hP1 hD1
    exact K z hz p l _ R s m args below meth c D TY A H1 locs1 cells slots mc ms ls C hK hZ hd1 hd2 hc1 hc2 hc3 hc4 hP1 hD1 hS1 hl0
/-- new byte[n], of at most B places -/
theorem aw_newB {B kc' ks' : Nat} {n : Int32} {ws' : Nat → aW} [dec : Decidable (n < 0 ∨ B < n.toNatClampNeg)] (dg : decode cc pc = .ok (.newarray .byte, 2)) (hq : pc + 2 = q) (hw : Cond.arrayClass .byte ∈ TB) (hB : B ≤ 1000) (h1 : kc' + 1 ≤ kc) (h2 : ks' + B ≤ ks) (hws : ∀ r, ws ++ [(r, .inl (5, n.toNatClampNeg, .inl (fun _ => 0)))] = ws' r) (K : ∀ r : Nat, AW own nm cc nL ret hh X d post kc' ks' o q lv (.ref r :: st) (ws' r)) : AW own nm cc nL ret hh X d post kc ks (if n < 0 ∨ B < n.toNatClampNeg then none else o) pc lv (.int n :: st) ws := by
  by_cases h9 : n < 0 ∨ B < n.toNatClampNeg
  · rw [if_pos h9]; exact aw_none
  · rw [if_neg h9]
    have h8 : n.toNatClampNeg ≤ B := Nat.not_lt.mp (fun h => h9 (Or.inr h))
    exact aw_newarr (t := 5) (N := n.toNatClampNeg) (kc' := kc') (ks' := ks') dg hq (by decide) rfl hw (fun _ => rfl) (fun h => h9 (Or.inl h)) rfl (by show n.toNatClampNeg * 1 ≤ _; omega) h1 (by omega) hws K
/-- System.arraycopy of bytes -/
theorem aw_copyB {index a0 a n0 n1 : Nat} {f g : Nat → Int32} {sp dp n : Int32} {ws' : aW} [dec : Decidable (sp < 0 ∨ dp < 0 ∨ n < 0 ∨ n0 < sp.toNatClampNeg + n.toNatClampNeg ∨ n1 < dp.toNatClampNeg + n.toNatClampNeg ∨ ¬ ∀ i, i < n.toNatClampNeg → fits .byte (.int (f (sp.toNatClampNeg + i))) = true)] (dg : decode cc pc = .ok (.invokestatic index, 3)) (hq : pc + 3 = q) (hl : Cond.methodLink own index arraycopyName ∈ TB) (hw : Cond.native arraycopyName ∈ TB ∧ Cond.static arraycopyName ∈ TB ∧ Cond.initialized "java/lang/System" ∈ TB) (hd : 2 ≤ d) (hst : (st.map fun v => v.category).sum ≤ 8) (q0 q1 : Nat) (ha0 : ws[q0]? = some (a0, .inl (5, n0, .inl f))) (ha1 : ws[q1]? = some (a, .inl (5, n1, .inl g)))
    (hws : ws.set q1 (a, .inl (5, n1, .inl (va_cpy f g sp.toNatClampNeg dp.toNatClampNeg n.toNatClampNeg))) = ws') (K : AW own nm cc nL ret hh X d post kc ks o q lv st ws') : AW own nm cc nL ret hh X d post kc ks (if sp < 0 ∨ dp < 0 ∨ n < 0 ∨ n0 < sp.toNatClampNeg + n.toNatClampNeg ∨ n1 < dp.toNatClampNeg + n.toNatClampNeg ∨ ¬ ∀ i, i < n.toNatClampNeg → fits .byte (.int (f (sp.toNatClampNeg + i))) = true then none else o) pc lv (.int n :: .int dp :: .ref a :: .int sp :: .ref a0 :: st) ws := by
  subst hq
  intro z hz p l e R s m args below meth c D TY A H locs cells slots mc ms ls C hK hZ hd1 hd2 hc1 hc2 hc3 hc4 hP hD hS hl0
  by_cases h9 : sp < 0 ∨ dp < 0 ∨ n < 0 ∨ n0 < sp.toNatClampNeg + n.toNatClampNeg ∨ n1 < dp.toNatClampNeg + n.toNatClampNeg ∨ ¬ ∀ i, i < n.toNatClampNeg → fits .byte (.int (f (sp.toNatClampNeg + i))) = true
  · rw [if_pos h9] at hz; cases hz
  · rw [if_neg h9] at hz
    simp only [not_or] at h9
    obtain ⟨g1, g2, g3, g4, g5, g6⟩ := h9
    have h8 : nativeFrameWords "java/lang/System" "arraycopy" 5 ≤ 60 := by decide
    have h7 : (st.map fun v => v.category).sum + (nativeFrameWords "java/lang/System" "arraycopy" 5 + 11) ≤ R.locals := by omega
    refine va_copyi C.1 C.2.1 (C.2.2.1.trans hl0.1.symm) C.2.2.2.2.1 (C.2.2.2.2.2.1 _ hl) (C.2.2.2.2.2.1 _ hw.1) (C.2.2.2.2.2.1 _ hw.2.1) (C.2.2.2.2.2.1 _ hw.2.2) hK hP hD hS q0 q1 5 5 (ty := .byte) (re_get ha0) (re_get ha1) (aw_tys (by decide)) (aw_tys (by decide)) rfl g1 g2 g3 (Nat.not_lt.mp g4) (Nat.not_lt.mp g5) (Decidable.not_not.mp g6) (by omega) h7 dg (fun H1 locs1 hP1 hD1 hS1 => ?_)
    have e : (re TY ws).set q1 (a, .inl (TY 5, n1, .inl (va_cpy f g sp.toNatClampNeg dp.toNatClampNeg n.toNatClampNeg))) = re TY ws' := by rw [← hws]; exact re_set (e := .inl (5, n1, .inl (va_cpy f g sp.toNatClampNeg dp.toNatClampNeg n.toNatClampNeg)))
    rw [e] at hP1 hD1
    exact K z hz p l _ R s m args below meth c D TY A H1 locs1 cells slots mc ms ls C hK hZ hd1 hd2 hc1 hc2 hc3 hc4 hP1 hD1 hS1 hl0
/-- a byte array's clone, cast back -/
theorem aw_cloneB {index i2 a n B kc' ks' : Nat} {f : Nat → Int32} {ws' : Nat → aW} [dec : Decidable (B < n ∨ ¬ ∀ i, i < n → fits .byte (.int (f i)) = true)] (dg : decode cc pc = .ok (.invokevirtual index, 3)) (dg2 : decode cc (pc + 3) = .ok (.checkcast i2, 3)) (hq : pc + 6 = q)
    (hw : Cond.methodLink own index ⟨"[B", "clone", "()Ljava/lang/Object;"⟩ ∈ TB ∧ Cond.sameMethod "[B" "java/lang/Object" "clone" "()Ljava/lang/Object;" ∈ TB ∧ Cond.native ⟨"java/lang/Object", "clone", "()Ljava/lang/Object;"⟩ ∈ TB ∧ Cond.instanceMethod ⟨"java/lang/Object", "clone", "()Ljava/lang/Object;"⟩ ∈ TB ∧ Cond.selects "[B" ⟨"[B", "clone", "()Ljava/lang/Object;"⟩ ⟨"java/lang/Object", "clone", "()Ljava/lang/Object;"⟩ ∈ TB ∧ Cond.castable "[B" "java/lang/Cloneable" ∈ NGW ∧ Cond.classLink own i2 "[B" ∈ TB) (hd : 2 ≤ d) (hst : (st.map fun v => v.category).sum ≤ 8)
    (q0 : Nat) (ha : ws[q0]? = some (a, .inl (5, n, .inl f))) (h1 : kc' + 1 ≤ kc) (h2 : ks' + B ≤ ks) (hws : ∀ r, ws ++ [(r, .inl (5, n, .inl f))] = ws' r) (K : ∀ r : Nat, AW own nm cc nL ret hh X d post kc' ks' o q lv (.ref r :: st) (ws' r)) : AW own nm cc nL ret hh X d post kc ks (if B < n ∨ ¬ ∀ i, i < n → fits .byte (.int (f i)) = true then none else o) pc lv (.ref a :: st) ws := by
  subst hq
  intro z hz p l e R s m args below meth c D TY A H locs cells slots mc ms ls C hK hZ hd1 hd2 hc1 hc2 hc3 hc4 hP hD hS hl0
  by_cases h9 : B < n ∨ ¬ ∀ i, i < n → fits .byte (.int (f i)) = true
  · rw [if_pos h9] at hz; cases hz
  · rw [if_neg h9] at hz
    simp only [not_or] at h9
    obtain ⟨g1, g2⟩ := h9
    obtain ⟨w1, w2, w3, w4, w5, w6, w7⟩ := hw
    have hnm : s.vm.findClass "[B" = some (TY 5) := (hK.2 5 _ (aw_tys (by decide))).2
    refine va_clone (ad := "[B") C.1 C.2.1 (C.2.2.1.trans hl0.1.symm) C.2.2.2.2.1 (C.2.2.2.2.2.1 _ w1) (C.2.2.2.2.2.1 _ w2) (C.2.2.2.2.2.1 _ w3) (C.2.2.2.2.2.1 _ w4) (C.2.2.2.2.2.1 _ w5) (hZ.2.2.2.2.2.1 _ w6) hK hP hD hS C.2.2.2.2.2.2.2.2.2.2.2 q0 5 (ty := .byte) (re_get ha) (aw_tys (by decide)) hnm (fun i v hv => ?_) (by omega) (by omega) (by omega) (by show slots + n ≤ _; omega) dg (fun r H1 hK1 hP1 hD1 hS1 => ?_)
    · have hlt : i < n := by
        have := (Array.getElem?_eq_some_iff.mp hv).1
        rwa [show (vp_cell (TY 5) (n, .inl f)).slots.size = n from arr_size (TY 5) n f] at this
      rw [show (vp_cell (TY 5) (n, .inl f)).slots[i]? = some (.int (f i)) from arr_read (TY 5) f hlt] at hv
      cases hv
      exact Decidable.not_not.mp g2 i hlt
    · have e : re TY ws ++ [(r, .inl (TY 5, n, .inl f))] = re TY (ws' r) := by rw [← hws, re_app]; rfl
      rw [e] at hP1 hD1
      have hlast : (ws' r)[ws.length]? = some (r, .inl (5, n, .inl f)) := by rw [← hws]; simp
      refine va_castA (nm := "[B") C.1 C.2.1 C.2.2.2.2.1 (C.2.2.2.2.2.1 _ w7) hP1 ws.length (re_get hlast) hnm dg2 ?_
      exact K r z hz p l _ R s m args below meth c D TY A H1 locs (cells + 1) (slots + n) mc ms ls C hK hZ hd1 hd2 hc1 hc2 (by omega) (by omega) hP1 hD1 hS1 hl0
/-- Integer's two tables of digits: T[-x], T[x] -/
theorem aw_tab1 {S : String} {tb : Nat → Int32} {index : Nat} {k : Fin 4} {x : Int32} [dec : Decidable (-x < 0 ∨ 100 ≤ (-x).toNatClampNeg)] (d0 : decode cc pc = .ok (.getstatic index, 3)) (d3 : decode cc (pc + 3) = .ok (.iload_n k, 1)) (d4 : decode cc (pc + 4) = .ok (.ineg, 1)) (d5 : decode cc (pc + 5) = .ok (.baload, 1)) (hq : pc + 6 = q) (hl : Cond.fieldLink own index "java/lang/Integer" S "[B" ∈ TB) (hS0 : (S, tb) ∈ TABS) (j : Nat) (hj : lv[j]? = some ((k : Nat), .int x)) (K : AW own nm cc nL ret hh X d post kc ks o q lv (.int (tb (-x).toNatClampNeg) :: st) ws) : AW own nm cc nL ret hh X d post kc ks (if -x < 0 ∨ 100 ≤ (-x).toNatClampNeg then none else o) pc lv st ws := by
  subst hq
  intro z hz p l e R s m args below meth c D TY A H locs cells slots mc ms ls C hK hZ hd1 hd2 hc1 hc2 hc3 hc4 hP hD hS hl0
  by_cases h9 : -x < 0 ∨ 100 ≤ (-x).toNatClampNeg
  · rw [if_pos h9] at hz; cases hz
  · rw [if_neg h9] at hz
    obtain ⟨t, ht1, ht2⟩ := hZ.2.2.2.2.2.2.2.2 _ hS0
    refine va_gets C.1 C.2.1 ht1 hS C.2.2.2.2.1 (C.2.2.2.2.2.1 _ hl) (fun _ h9 => h9) d0 ?_
    refine lv_iload_n C.1 C.2.1 d3 rfl (lv_at hl0 j hj) ?_
    refine lv_ineg C.1 C.2.1 d4 ?_
    refine va_tb C.1 C.2.1 ht2 hS h9 rfl d5 ?_
    exact K z hz p l e R s m args below meth c D TY A H locs cells slots mc ms ls C hK hZ hd1 hd2 hc1 hc2 hc3 hc4 hP hD hS hl0
theorem aw_tab2 {S : String} {tb : Nat → Int32} {index k : Nat} {x : Int32} [dec : Decidable (x < 0 ∨ 100 ≤ x.toNatClampNeg)] (d0 : decode cc pc = .ok (.getstatic index, 3)) (d3 : decode cc (pc + 3) = .ok (.iload k, 2)) (d5 : decode cc (pc + 5) = .ok (.baload, 1)) (hq : pc + 6 = q) (hl : Cond.fieldLink own index "java/lang/Integer" S "[B" ∈ TB) (hS0 : (S, tb) ∈ TABS) (j : Nat) (hj : lv[j]? = some (k, .int x)) (K : AW own nm cc nL ret hh X d post kc ks o q lv (.int (tb x.toNatClampNeg) :: st) ws) : AW own nm cc nL ret hh X d post kc ks (if x < 0 ∨ 100 ≤ x.toNatClampNeg then none else o) pc lv st ws := by
  subst hq
  intro z hz p l e R s m args below meth c D TY A H locs cells slots mc ms ls C hK hZ hd1 hd2 hc1 hc2 hc3 hc4 hP hD hS hl0
  by_cases h9 : x < 0 ∨ 100 ≤ x.toNatClampNeg
  · rw [if_pos h9] at hz; cases hz
  · rw [if_neg h9] at hz
    obtain ⟨t, ht1, ht2⟩ := hZ.2.2.2.2.2.2.2.2 _ hS0
    refine va_gets C.1 C.2.1 ht1 hS C.2.2.2.2.1 (C.2.2.2.2.2.1 _ hl) (fun _ h9 => h9) d0 ?_
    refine lv_iload C.1 C.2.1 d3 (lv_at hl0 j hj) ?_
    refine va_tb C.1 C.2.1 ht2 hS h9 rfl d5 ?_
    exact K z hz p l e R s m args below meth c D TY A H locs cells slots mc ms ls C hK hZ hd1 hd2 hc1 hc2 hc3 hc4 hP hD hS hl0
/-- a private method of a class above C, called on C: none else is selected -/
theorem sel_sub {C : String} {y w : MethodName} {args : Array Value} {s : State} (hz : (Cond.selects C w w).before args s = true) (hcl : w.cls = y.cls) (hy : y.cls ≠ "java/lang/invoke/MethodHandle" ∧ y.cls ≠ "java/lang/invoke/VarHandle") (hpriv : (Cond.privateMethod y).before args s = true) (hinst : (Cond.instanceMethod y).before args s = true) : (Cond.selects C y y).before args s = true := by
  obtain ⟨mk, methM, hnamed, hmethM, -, -⟩ := Cond.instanceMethod_spec hinst
  have hfound : s.methodFound? y.cls y.name y.desc = some mk := State.methodFound?_of_named hnamed hy
  have hsel : ∀ c, selectMethod {} s.vm c mk = .method mk := fun c => selectMethod_private hmethM (Cond.privateMethod_at hpriv mk methM hnamed hmethM)
  simp only [Cond.before, Cond.holds, Cond.value] at hz ⊢
  cases hc : s.vm.findClass C with
  | none => simp [hc] at hz
  | some c =>
    cases hf : s.methodFound? w.cls w.name w.desc with
    | none => simp [hc, hf] at hz
    | some r =>
      cases hn : s.methodNamed? w with
      | none => simp [hc, hf, hn] at hz
      | some m =>
        have e1 := findClass_of_methodNamed hn
        have e2 := findClass_of_methodNamed hnamed
        rw [hcl] at e1
        have e : mk.cls = m.cls := Option.some.inj (e2.symm.trans e1)
        simp only [hc, hf, hn] at hz
        have hi : (s.vm.classes[m.cls]?).any (fun k => !k.isInterface) = true := by
          cases hq : selectMethod {} s.vm c r with
          | method m' => rw [hq] at hz; simp at hz ⊢; exact hz.2
          | _ => rw [hq] at hz; simp at hz
        simp only [hfound, hnamed, hsel, e, hi]
        simp
/-- a method of the class above, found by the receiver (own names it as x; C selects y) -/
theorem runU {C : String} {x y : MethodName} {bytes : ByteArray} {maxL n index d' kc' ks' ci b q0 : Nat} {ret' : Option FieldType} {As : List Value} {fs : List Value} {st0 : List Value} {wc : aW} {P : aO → aW → Prop} {r : vw_C} (dg : decode cc pc = .ok (.invokevirtual index, 3)) (hm : MI y bytes maxL n ret') (hi : Cond.instanceMethod y ∈ TB) (hse : ∀ (args : Array Value) (s : State), (∀ w ∈ TB, w.before args s = true) → (∀ w ∈ NGW, va_Nw w s) → (Cond.selects C x y).before args s = true) (hsm : Cond.sameMethod x.cls x.cls x.name x.desc ∈ TB) (hix : Cond.instanceMethod x ∈ TB) {b0 : ByteArray} {m0 : Nat} {r0 : Option FieldType} (hcx : Cond.code x b0 m0 r0 ∈ TB) (hl : Cond.methodLink own index x ∈ TB) (hnx : (x.cls ≠ "java/lang/invoke/MethodHandle" ∧ x.cls ≠ "java/lang/invoke/VarHandle") ∧ (parseMethodDescriptor x.desc).map (fun d => d.parameters.length) = some n) (hd : d' + 1 ≤ d) (hn : As.length = n) (hst : (st.map fun v => v.category).sum ≤ 8) (he : ws[q0]? = some (b, .inr (ci, fs))) (hc : vwCl[ci]? = some r) (hcn : r.1 = C) (hst0 : st0 = As.reverse ++ .ref b :: st) :
    RunOf own cc nL d pc index y (.code y bytes maxL ret') d' kc' ks' (.ref b :: As) st st0 ws wc P := by
  subst hst0
  intro p l e R s m args below meth c D TY A H locs cells slots ls is hx hb hml hown hts hlt hA hK hZ hd1 hd2 hc1 hc2 hP hD hS hls hnd hC hok
  obtain ⟨hbl, hpc, hF⟩ := pc_of (As := .ref b :: As) (p := p) (l := l) (m := m) (args := args) (meth := meth) (c := c) hK hZ hP hD hS hA hnd hC
  have hrecv := va_recv hK hP hc (re_get he)
  rw [hcn] at hrecv
  obtain ⟨m1, m2, m3, m4, m5⟩ := hm
  refine vx_runU (owner := x.cls) (C := C) (x := x) (bytes := bytes) (maxL := maxL) (ret := ret') (cc := cc) (nL := nL) (Ts := TB) ⟨hx, hb, hml, hown, hts⟩ (hok l D TY H.size hlt) ⟨⟨rfl, rfl, by show d' + 1 ≤ R.frames; omega, by show 8 + (maxL + 11) + 64 * d' ≤ R.locals; omega, ws_stay hts m1, List.mem_cons_self⟩, hts _ m1, hts _ m2, hnx.1, fun sig h => ?_, hts _ hl, hts _ hsm, va_Decl.of (hts _ hix) (hts _ hcx), hse args s hts hZ.2.2.2.2.2.1, hts _ hi⟩ ⟨hbl, hrecv, hpc⟩ rfl hn hls rfl (lv_room hst) dg ⟨hc1, hc2⟩
  have h2 := hnx.2
  rw [h] at h2
  exact (Option.some.inj h2).symm
/-- super.m(..) -/
theorem runSU {y : MethodName} {bytes : ByteArray} {maxL n index d' kc' ks' ci b q0 : Nat} {ret' : Option FieldType} {As : List Value} {fs : List Value} {st0 : List Value} {wc : aW} {P : aO → aW → Prop} {r : vw_C} (dg : decode cc pc = .ok (.invokespecial index, 3)) (hm : MI y bytes maxL n ret') (hy : y.name ≠ "<init>") (hi : Cond.instanceMethod y ∈ TB) (hsm : Cond.sameMethod y.cls y.cls y.name y.desc ∈ TB) (hsu : Cond.superclass own y.cls ∈ TB) (hl : Cond.methodLink own index y ∈ TB) (hd : d' + 1 ≤ d) (hn : As.length = n) (hst : (st.map fun v => v.category).sum ≤ 8) (he : ws[q0]? = some (b, .inr (ci, fs))) (hc : vwCl[ci]? = some r) (hst0 : st0 = As.reverse ++ .ref b :: st) :
    RunOf own cc nL d pc index y (.code y bytes maxL ret') d' kc' ks' (.ref b :: As) st st0 ws wc P := by
  subst hst0
  intro p l e R s m args below meth c D TY A H locs cells slots ls is hx hb hml hown hts hlt hA hK hZ hd1 hd2 hc1 hc2 hP hD hS hls hnd hC hok
  obtain ⟨hbl, hpc, hF⟩ := pc_of (As := .ref b :: As) (p := p) (l := l) (m := m) (args := args) (meth := meth) (c := c) hK hZ hP hD hS hA hnd hC
  have hrecv := va_recv hK hP hc (re_get he)
  obtain ⟨m1, m2, m3, m4, m5⟩ := hm
  have hG : GoodIn TB (va_wsSU own index y (.code y bytes maxL ret' :: TB)) := gin (fun w hw => by
    simp only [va_wsSU, List.cons_append, List.nil_append, List.mem_cons] at hw
    rcases hw with rfl | rfl | rfl | rfl | rfl | rfl | hw
    · exact hl
    · exact hsm
    · exact hsu
    · exact hi
    · exact m2
    · exact m1
    · exact hw)
  exact vx_runSU (C := r.1) (hK.1 ci r hc).2 (cc := cc) (nL := nL) (Ts := TB) ⟨hx, hb, hml, hown, hts⟩ (hok l D TY H.size hlt) (va_cwSU n hts hG rfl rfl rfl ⟨hy, m4⟩ ⟨by show d' + 1 ≤ R.frames; omega, by show 8 + (maxL + 11) + 64 * d' ≤ R.locals; omega⟩) ⟨hbl, hrecv, hpc⟩ rfl hn hls rfl (lv_room hst) dg ⟨hc1, hc2⟩
theorem rar2 {g : Nat → Nat} : (fun i => if i < 2 then some (g i) else none) = va_up (va_up (fun _ => none) 0 (some (g 0))) 1 (some (g 1)) := by
  funext i
  match i with
  | 0 => rfl
  | 1 => rfl
  | i + 2 => simp [va_up]
theorem rar3 {g : Nat → Nat} : (fun i => if i < 3 then some (g i) else none) = va_up (va_up (va_up (fun _ => none) 0 (some (g 0))) 1 (some (g 1))) 2 (some (g 2)) := by
  funext i
  match i with
  | 0 => rfl
  | 1 => rfl
  | 2 => rfl
  | i + 3 => simp [va_up]
theorem aw_pos {b : Nat} (K : ¬ b = 0 → AW own nm cc nL ret hh X d post kc ks o pc lv st ws) : AW own nm cc nL ret hh X d post kc ks (if b = 0 then none else o) pc lv st ws := by
  by_cases h : b = 0
  · rw [if_pos h]; exact aw_none
  · rw [if_neg h]; exact K h
end AWR

end MG_02iaw
