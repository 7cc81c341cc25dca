def STRS : List (String × Nat × String) := [("Sumlarder", 265, "no such desk"), ("Sumlarder", 258, "no such memory"), ("Sumlarder", 269, "out of range"), ("Sumlarder", 263, "no such rule"), ("SumlarderModel", 177, "")]
/-! ===== the abstract walk: a state of a method as data (pc, locals, stack, world), and W behind it ===== -/
def TB : List Cond := lw_tbl.filter goodWord
theorem TB_good : ∀ w ∈ TB, goodWord w = true := fun w h => (List.mem_filter.mp h).2
theorem TB_in {w : Cond} (h : w ∈ lw_tbl) (g : goodWord w = true) : w ∈ TB := List.mem_filter.mpr ⟨h, g⟩
theorem TB_tab {w : Cond} (i : Nat) (h : tables_1[i]? = some w) (g : goodWord w = true) : w ∈ TB := TB_in (List.mem_append_right _ (List.mem_of_getElem? h)) g
theorem TB_sel {w : Cond} (i : Nat) (h : (k2_sels lw_privs)[i]? = some w) (g : goodWord w = true) : w ∈ TB := TB_in (List.mem_append_left _ (List.mem_of_getElem? h)) g
theorem TB_stay {s : State} {args : Array Value} (hts : ∀ w ∈ TB, w.before args s = true) : ∀ w ∈ TB, ∀ (a' : Array Value) (U : State), s.WarmedH U.vm → w.before a' U = true := fun w hw a' U hW => word_at hW (good_of_word (TB_good w hw)) (hts w hw)
abbrev aE : Type := (Nat × vp_A) ⊕ (Nat × List Value)
abbrev aW : Type := List (Nat × aE)
def re1 (TY : Nat → ClassId) (e : aE) : va_E := match e with
  | .inl a => .inl (TY a.1, a.2)
  | .inr o => .inr o
def re (TY : Nat → ClassId) (ws : aW) : va_W := ws.map (fun q => (q.1, re1 TY q.2))
theorem re_get {TY : Nat → ClassId} {ws : aW} {k q : Nat} {e : aE} (h : ws[k]? = some (q, e)) : (re TY ws)[k]? = some (q, re1 TY e) := by
  unfold re
  rw [List.getElem?_map, h]
  rfl
theorem re_set {TY : Nat → ClassId} {ws : aW} {k q : Nat} {e : aE} : (re TY ws).set k (q, re1 TY e) = re TY (ws.set k (q, e)) := by
  unfold re
  rw [List.map_set]
theorem re_app {TY : Nat → ClassId} {a b : aW} : re TY (a ++ b) = re TY a ++ re TY b := List.map_append
theorem re_places {TY : Nat → ClassId} {ws wc : aW} {is : List Nat} (h : is.map (fun i => ws[i]?) = wc.map some) : is.map (fun i => (re TY ws)[i]?) = (re TY wc).map some := by
  have h2 : is.map (fun i => (re TY ws)[i]?) = (is.map (fun i => ws[i]?)).map (fun o => o.map (fun (q : Nat × aE) => (q.1, re1 TY q.2))) := by
    rw [List.map_map]
    refine List.map_congr_left (fun i _ => ?_)
    unfold re
    rw [List.getElem?_map]
    rfl
  rw [h2, h]
  unfold re
  rw [List.map_map, List.map_map]
  rfl
theorem re_sub {TY : Nat → ClassId} {D : va_G} {ws ws' : aW} {H : Heap} {is : List Nat} (hP : va_P D vwCl (re TY ws) H) (h' : is.map (fun i => (re TY ws)[i]?) = (re TY ws').map some) : va_P D vwCl (re TY ws') H := by
  intro k z hk
  have h1 : (is.map (fun i => (re TY ws)[i]?))[k]? = some (some z) := by rw [h', List.getElem?_map, hk]; rfl
  rw [List.getElem?_map] at h1
  cases hi : is[k]? with
  | none => rw [hi] at h1; cases h1
  | some i => rw [hi] at h1; exact hP i z (Option.some.inj h1)
def tyAt : Nat → FieldType := fun k => match k with
  | 0 => .int
  | 1 => .object "Sumlarder$Memory"
  | 2 => .object "Sumlarder$Ledger"
  | 3 => .object "Sumlarder$Way"
  | 4 => .array .int
  | _ => .byte
def tysOf (TY : Nat → ClassId) : List (ClassId × FieldType) := [(TY 0, tyAt 0), (TY 1, tyAt 1), (TY 2, tyAt 2), (TY 3, tyAt 3), (TY 4, tyAt 4), (TY 5, tyAt 5)]
def ngw : Cond → Bool
  | .declares _ => true
  | .castable _ _ => true
  | .fieldLinkNest .. => true
  | .methodLinkNest .. => true
  | .privateMethod _ => true
  | _ => false
def NGW : List Cond := tables_1.filter ngw
theorem NGW_tab {w : Cond} (i : Nat) (h : tables_1[i]? = some w) (g : ngw w = true) : w ∈ NGW := List.mem_filter.mpr ⟨List.mem_of_getElem? h, g⟩
theorem TBm_1 {w : Cond} (i : Nat) (h : tables_1_1[i]? = some w) (g : goodWord w = true) : w ∈ TB := TB_in (List.mem_append_right _ (List.mem_append_left _ (List.mem_of_getElem? h))) g
theorem NGm_1 {w : Cond} (i : Nat) (h : tables_1_1[i]? = some w) (g : ngw w = true) : w ∈ NGW := List.mem_filter.mpr ⟨(List.mem_append_left _ (List.mem_of_getElem? h)), g⟩
theorem TBm_2 {w : Cond} (i : Nat) (h : tables_1_2[i]? = some w) (g : goodWord w = true) : w ∈ TB := TB_in (List.mem_append_right _ (List.mem_append_right _ (List.mem_append_left _ (List.mem_of_getElem? h)))) g
theorem NGm_2 {w : Cond} (i : Nat) (h : tables_1_2[i]? = some w) (g : ngw w = true) : w ∈ NGW := List.mem_filter.mpr ⟨(List.mem_append_right _ (List.mem_append_left _ (List.mem_of_getElem? h))), g⟩
theorem TBm_3 {w : Cond} (i : Nat) (h : tables_1_3[i]? = some w) (g : goodWord w = true) : w ∈ TB := TB_in (List.mem_append_right _ (List.mem_append_right _ (List.mem_append_right _ (List.mem_append_left _ (List.mem_of_getElem? h))))) g
theorem NGm_3 {w : Cond} (i : Nat) (h : tables_1_3[i]? = some w) (g : ngw w = true) : w ∈ NGW := List.mem_filter.mpr ⟨(List.mem_append_right _ (List.mem_append_right _ (List.mem_append_left _ (List.mem_of_getElem? h)))), g⟩
theorem TBm_4 {w : Cond} (i : Nat) (h : tables_1_4[i]? = some w) (g : goodWord w = true) : w ∈ TB := TB_in (List.mem_append_right _ (List.mem_append_right _ (List.mem_append_right _ (List.mem_append_right _ (List.mem_append_left _ (List.mem_of_getElem? h)))))) g
theorem NGm_4 {w : Cond} (i : Nat) (h : tables_1_4[i]? = some w) (g : ngw w = true) : w ∈ NGW := List.mem_filter.mpr ⟨(List.mem_append_right _ (List.mem_append_right _ (List.mem_append_right _ (List.mem_append_left _ (List.mem_of_getElem? h))))), g⟩
theorem TBm_5 {w : Cond} (i : Nat) (h : tables_1_5[i]? = some w) (g : goodWord w = true) : w ∈ TB := TB_in (List.mem_append_right _ (List.mem_append_right _ (List.mem_append_right _ (List.mem_append_right _ (List.mem_append_right _ (List.mem_append_left _ (List.mem_of_getElem? h))))))) g
theorem NGm_5 {w : Cond} (i : Nat) (h : tables_1_5[i]? = some w) (g : ngw w = true) : w ∈ NGW := List.mem_filter.mpr ⟨(List.mem_append_right _ (List.mem_append_right _ (List.mem_append_right _ (List.mem_append_right _ (List.mem_append_left _ (List.mem_of_getElem? h)))))), g⟩
theorem TBm_6 {w : Cond} (i : Nat) (h : tables_1_6[i]? = some w) (g : goodWord w = true) : w ∈ TB := TB_in (List.mem_append_right _ (List.mem_append_right _ (List.mem_append_right _ (List.mem_append_right _ (List.mem_append_right _ (List.mem_append_right _ (List.mem_append_left _ (List.mem_of_getElem? h)))))))) g
theorem NGm_6 {w : Cond} (i : Nat) (h : tables_1_6[i]? = some w) (g : ngw w = true) : w ∈ NGW := List.mem_filter.mpr ⟨(List.mem_append_right _ (List.mem_append_right _ (List.mem_append_right _ (List.mem_append_right _ (List.mem_append_right _ (List.mem_append_left _ (List.mem_of_getElem? h))))))), g⟩
theorem TBm_7 {w : Cond} (i : Nat) (h : tables_1_7[i]? = some w) (g : goodWord w = true) : w ∈ TB := TB_in (List.mem_append_right _ (List.mem_append_right _ (List.mem_append_right _ (List.mem_append_right _ (List.mem_append_right _ (List.mem_append_right _ (List.mem_append_right _ (List.mem_of_getElem? h)))))))) g
theorem NGm_7 {w : Cond} (i : Nat) (h : tables_1_7[i]? = some w) (g : ngw w = true) : w ∈ NGW := List.mem_filter.mpr ⟨(List.mem_append_right _ (List.mem_append_right _ (List.mem_append_right _ (List.mem_append_right _ (List.mem_append_right _ (List.mem_append_right _ (List.mem_of_getElem? h))))))), g⟩
theorem ngw_tabs {w : Cond} (g : ngw w = true) : w.onTables = true := by cases w <;> first | rfl | (simp [ngw] at g)
theorem NGW_use {w : Cond} {A : Array Value} {U : State} (h : w ∈ NGW) (hZ : va_Nw w U) : w.before A U = true := va_Nw.use (ngw_tabs (List.mem_filter.mp h).2) hZ
theorem ngw_warm {w : Cond} {s U : State} (g : ngw w = true) (hW : s.WarmedH U.vm) (h : va_Nw w s) : va_Nw w U := by
  cases w <;> first | exact va_Nw.warmD hW h | exact va_Nw.warmC hW h | exact va_Nw.warmF hW h | exact va_Nw.warmM hW h | exact Cond.privateMethod_warm hW h | (simp [ngw] at g)
def TABS : List (String × (Nat → Int32)) := [("DigitOnes", fun j => Int32.ofNat (48 + j % 10)), ("DigitTens", fun j => Int32.ofNat (48 + j / 10))]
def AOS : List String := ["Sumlarder$Memory", "Sumlarder$Ledger", "Sumlarder$Way"]
/-- what stands outside all worlds: the two statics of a throw, String.COMPACT_STRINGS, the texts, words that aren't good ones -/
def ZF (A : Nat → Prop) (U : State) (H : Heap) : Prop := vx_Zq Bundle.tN "UNASSIGNED_STACK" Bundle.steD A U H ∧ vx_Zq Bundle.tN "SUPPRESSED_SENTINEL" Bundle.listD A U H ∧ va_Z "java/lang/String" "COMPACT_STRINGS" "Z" (.int 1) A U H ∧ (∀ q ∈ STRS, ∃ a : Nat, vk_R q.1 q.2.1 q.2.2 a U) ∧ (∀ C ∈ AOS, va_AO C U) ∧ (∀ w ∈ NGW, va_Nw w U) ∧ va_AOA .int U ∧ va_Nc "java/lang/IllegalArgumentException" "java/lang/IndexOutOfBoundsException" U ∧ ∀ q ∈ TABS, ∃ t : Nat, va_Z "java/lang/Integer" q.1 "[B" (.ref t) A U H ∧ va_T .byte t 100 (fun j => .int (q.2 j)) A U H
theorem ZF.to {A A' : Nat → Prop} {s U : State} {H H' : Heap} (h : ZF A s H) (hk : ∀ a : Nat, a < H.size → ¬ A a → H'[a]? = H[a]?) (hW : s.WarmedH U.vm) (hA : ∀ q, A' q → A q) : ZF A' U H' := by
  obtain ⟨h1, h2, h3, h4, h5, h6, h7, h8, h9⟩ := h
  exact ⟨vx_Zq.moved hW.alike ((vx_Zq.kept h1 hk).narrow hA), vx_Zq.moved hW.alike ((vx_Zq.kept h2 hk).narrow hA), va_Z.moved hW.alike ((va_Z.kept h3 hk).narrow hA), fun q hq => by obtain ⟨a, ha⟩ := h4 q hq; exact ⟨a, vk_R.warm hW ha⟩, fun C hC => (h5 C hC).moved hW.alike, fun w hw => ngw_warm (List.mem_filter.mp hw).2 hW (h6 w hw), h7.moved hW.alike, h8.moved hW.alike, fun q hq => by obtain ⟨t, t1, t2⟩ := h9 q hq; exact ⟨t, va_Z.moved hW.alike ((va_Z.kept t1 hk).narrow hA), va_T.moved hW.alike ((va_T.kept t2 hk).narrow hA)⟩⟩
theorem ZF.calling {A : Nat → Prop} {U : State} {g : JFrame} {mk : MethodId} {a : Array Value} (h : ZF A U U.heap) : ZF A (U.calling g mk a) (U.calling g mk a).heap := ZF.to h (fun _ _ _ => rfl) (State.WarmedH.refl U) (fun _ h => h)
theorem ZF.call {A A' : Nat → Prop} {s U : State} {H : Heap} {locs : List Loc} (h : ZF A s s.heap) (hS : va_S A s.heap H locs) (hU : U.heap = H) (hW : s.WarmedH U.vm) (hA : ∀ q, A' q → A q) : ZF A' U U.heap := by
  rw [hU]
  exact ZF.to h hS.2.1 hW hA
/-- a method's end: it returned v, or threw E, in the world ws -/
abbrev aO : Type := Option Value ⊕ String
def QC (D : va_G) (TY : Nat → ClassId) (A : Nat → Prop) (P : aO → aW → Prop) : Array Value → State → Outcome → State → Prop := fun _ st oc t => (∃ (v : Option Value) (w : aW), oc = .returned v ∧ P (.inl v) w ∧ va_P D vwCl (re TY w) t.heap ∧ va_D A (re TY w)) ∧ va_F A st t
def XC (D : va_G) (TY : Nat → ClassId) (A : Nat → Prop) (P : aO → aW → Prop) : String → State → State → Prop := fun E st t => (∃ w : aW, P (.inr E) w ∧ va_P D vwCl (re TY w) t.heap ∧ va_D A (re TY w)) ∧ va_F A st t
/-- THE CONTRACT: called with args in the world ws, y ends as P says; d frames below it, kc cells of ks slots -/
def OkM (y : MethodName) (w0 : Cond) (d kc ks : Nat) (args : List Value) (ws : aW) (P : aO → aW → Prop) : Prop :=
  ∀ (l : Launch) (D : va_G) (TY : Nat → ClassId) (sz : Nat), l.stackTraces = false →
    vx_Met l y (w0 :: TB) { frames := d, cells := kc, slots := ks, locals := 64 * d } (va_Pc args (fun U => U.heap.size = sz ∧ va_P D vwCl (re TY ws) U.heap ∧ va_K D vwCl (tysOf TY) U ∧ va_D (fun _ => True) (re TY ws) ∧ ZF (va_A (re TY ws) sz) U U.heap)) (QC D TY (va_A (re TY ws) sz) P) (XC D TY (va_A (re TY ws) sz) P) kc ks (va_A (re TY ws) sz)
/-- what else may be said of the start (the law's script) -/
abbrev aX : Type := State → (Nat → Prop) → Prop
def Cx (own nm : String) (cc : ByteArray) (nL : Nat) (ret : Option FieldType) (hh : List (Nat × Nat × Nat × Nat)) (X : aX) (p : Program) (l : Launch) (s : State) (m : MethodId) (args : Array Value) (meth : Method) (c : Code) (A : Nat → Prop) : Prop :=
  p.tables.exec = Jvm.exec ∧ c.code = cc ∧ c.maxLocals = nL ∧ meth.sig.returnType = ret ∧ s.vm.findClass own = some m.cls ∧ (∀ w ∈ TB, w.before args s = true) ∧ meth.locks = false ∧ meth.name = nm ∧ c.exceptionTable.toList = tableOf hh ∧ l.stackTraces = false ∧ X s A ∧ ∀ q : Nat, s.heap.size ≤ q → A q
/-- THE WALK: from pc, with these locals, this stack, in this world, the method ends as 'post x' says, if the pure value o is x -/
def AW (own nm : String) (cc : ByteArray) (nL : Nat) (ret : Option FieldType) (hh : List (Nat × Nat × Nat × Nat)) (X : aX) (d : Nat) {T : Type} (post : T → aO → aW → Prop) (kc ks : Nat) (o : Option T) (pc : Nat) (lv : List (Nat × Value)) (st : List Value) (ws : aW) : Prop :=
  ∀ (x : T), o = some x → ∀ (p : Program) (l : Launch) (e : Env) (R : Room) (s : State) (m : MethodId) (args : Array Value) (below : List Frame) (meth : Method) (c : Code) (D : va_G) (TY : Nat → ClassId) (A : Nat → Prop) (H : Heap) (locs : List Loc) (cells slots mc ms : Nat) (ls : Array Slot),
    Cx own nm cc nL ret hh X p l s m args meth c A → va_K D vwCl (tysOf TY) s → ZF A s s.heap → d ≤ R.frames → 64 * d ≤ R.locals → mc ≤ R.cells → ms ≤ R.slots → cells + kc ≤ mc → slots + ks ≤ ms →
    va_P D vwCl (re TY ws) H → va_D A (re TY ws) → va_S A s.heap H locs → lv_has ls nL lv →
    W p l e R s m args below meth c H locs cells slots (vx_MQ below (QC D TY A (post x)) (XC D TY A (post x)) args s mc ms A) (F0 m pc ls st)
section AWR
variable {own nm : String} {cc : ByteArray} {nL : Nat} {ret : Option FieldType} {hh : List (Nat × Nat × Nat × Nat)} {X : aX} {d : Nat} {T : Type} {post : T → aO → aW → Prop} {kc ks : Nat} {o : Option T} {pc q : Nat} {lv lv' : List (Nat × Value)} {st : List Value} {ws : aW}
theorem aw_none : AW own nm cc nL ret hh X d post kc ks (none : Option T) pc lv st ws := fun x h => by cases h
theorem aw_locals (is : List Nat) (hl : lv_pick lv is = lv') (K : AW own nm cc nL ret hh X d post kc ks o pc lv' st ws) : AW own nm cc nL ret hh X d post kc ks o pc lv st ws := by
  intro x hx p l e R s m args below meth c D TY A H locs cells slots mc ms ls C hK hZ hd1 hd2 hc1 hc2 hc3 hc4 hP hD hS hl0
  exact K x hx p l e R s m args below meth c D TY A H locs cells slots mc ms ls C hK hZ hd1 hd2 hc1 hc2 hc3 hc4 hP hD hS (lv_sub hl0 is hl)
/-- fewer cells, or in another order -/
theorem aw_world {ws' : aW} (is : List Nat) (hn : va_nd is = true) (h : is.map (fun i => ws[i]?) = ws'.map some) (K : AW own nm cc nL ret hh X d post kc ks o pc lv st ws') : AW own nm cc nL ret hh X d post kc ks o pc lv st ws := by
  intro x hx p l e R s m args below meth c D TY A H locs cells slots mc ms ls C hK hZ hd1 hd2 hc1 hc2 hc3 hc4 hP hD hS hl0
  have h' := re_places (TY := TY) h
  refine K x hx p l e R s m args below meth c D TY A H locs cells slots mc ms ls C hK hZ hd1 hd2 hc1 hc2 hc3 hc4 (re_sub hP h') (hD.sub is hn h') hS hl0
theorem aw_room {kc' ks' : Nat} (h1 : kc' ≤ kc) (h2 : ks' ≤ ks) (K : AW own nm cc nL ret hh X d post kc' ks' o pc lv st ws) : AW own nm cc nL ret hh X d post kc ks o pc lv st ws := by
  intro x hx p l e R s m args below meth c D TY A H locs cells slots mc ms ls C hK hZ hd1 hd2 hc1 hc2 hc3 hc4 hP hD hS hl0
  exact K x hx p l e R s m args below meth c D TY A H locs cells slots mc ms ls C hK hZ hd1 hd2 hc1 hc2 (by omega) (by omega) hP hD hS hl0
end AWR
