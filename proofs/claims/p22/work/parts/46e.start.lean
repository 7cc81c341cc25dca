/-! THE CLAIM OUT OF ONE WALK OF THE LAW'S BODY. Your part is whole_start (and what it stands on); all else here is the same for every law, but numbers. -/
def R_law : String := "SumlarderLaw"
def lw_P (b : Addr) (xs : List Int32) (args : Array Value) (s : State) : Prop := args = #[.ref b] ∧ s.IntsAt b xs ∧ xs.length ≤ 384 ∧ (Jvm.Cond.and given_1 narrow_1).before args s = true
def lw_Q (_ : Array Value) (s : State) (o : Outcome) (t : State) : Prop := o = .returned (some (.int 1)) ∧ Framed s o t [] 600128 7301098
def lw_Z (below : List Frame) (a : Array Value) (s : State) : State → Prop := fun t => ∃ o, t.status = .running ∧ Ended t below o ∧ lw_Q a s o t
/-- the law's own end, with 1 on the stack, nothing written that was there before, its room as the claim has it -/
theorem lw_ret {p : Program} {l : Launch} {e : Env} {s : State} {m : MethodId} {below : List Frame} {meth : Method} {c : Code} {b : Nat} (hx : p.tables.exec = Jvm.exec) (hb : c.code = code) (hr : meth.sig.returnType = ret) (hlocks : meth.locks = false) {pc : Nat} {H : Heap} {ls : Array Slot} (hdg : decode code pc = .ok (.ireturn, 1)) : W p l e room_1 s m #[Value.ref b] below meth c H [] 600128 7301098 (lw_Z below #[Value.ref b] s) (F0 m pc ls [.int 1]) := by
  intro T hT X
  obtain ⟨fs, hret, hrun, hended, hW, hframe⟩ := X.leave (v := some (.int 1)) (hlocks := hlocks) (fun h => by rw [hr] at h; cases h)
  have hmeth' : T.vm.method? m = some meth := X.method'
  refine ⟨T.setFrames fs, ?_, .returned (some (.int 1)), hrun, hended, rfl, ⟨_, rfl⟩, hW, hframe⟩
  jvm_step X.here [X.here.top, hx, hb, hdg, hmeth', hr, ret, narrow_b1]
  (try refine ⟨rfl, ?_⟩); (try refine ⟨rfl, ?_⟩)
  first | (intro acts; rw [hret _ acts rfl rfl rfl]) | rw [hret _ _ rfl rfl rfl]
  exact Steps.refl _
/-- what holds at the law's entry: the machine, the code, the tables' words (any of lw_tbl by 'hts w (by decide +kernel)'), the script of L ints xs at the cell b, what the Statement gives of the start (any of its parts by flat_of_before) -/
def lw_At (p : Program) (s : State) (m : MethodId) (meth : Method) (c : Code) (b L : Nat) (xs : Nat → Int32) : Prop :=
  p.tables.exec = Jvm.exec ∧ c.code = code ∧ meth.sig.returnType = ret ∧ c.maxLocals = 7 ∧ s.vm.findClass R_law = some m.cls ∧ (∀ w ∈ lw_tbl, w.before #[Value.ref b] s = true) ∧ va_X b L xs s s.heap ∧ b < s.heap.size ∧ meth.locks = false ∧ (Jvm.Cond.and given_1 narrow_1).before #[Value.ref b] s = true
set_option maxHeartbeats 4000000 in
theorem start_of {p : Program} {e : Env} {s : State} {m : MethodId} {below : List Frame} {meth : Method} {c : Code} (l : Launch) (hflags : l.flags = flags0) {b L : Nat} {xs : Nat → Int32} (hp : ∃ N K : Nat, K ≤ 100 ∧ flaw0 N K L xs = some 1) (C0 : lw_At p s m meth c b L xs) : W p l e room_1 s m #[Value.ref b] below meth c s.heap [] 0 0 (lw_Z below #[Value.ref b] s) (entryFrame m ([Value.ref b] : List Value).toArray 7) := by
  obtain ⟨hx, hb, hr, hml, hown, hts, hX, hbl, hlocks, hgv⟩ := C0
  obtain ⟨N, K, hK9, hp⟩ := hp
  obtain ⟨D, TY, hK, hZ⟩ := z_start hts hgv
  have hst : l.stackTraces = false := by unfold Launch.stackTraces; rw [hflags]; decide
  have hAn : ∀ a : Nat, a < s.heap.size → ¬ (va_A (re TY []) s.heap.size) a := by
    intro a ha h
    rcases h with ⟨k, e, h⟩ | h
    · simp [re] at h
    · omega
  have hl := lv_entry ([.ref b]) (n := 7) (Nat.le_of_ble_eq_true rfl)
  rw [lg_entry_eq]
  have K0 := tlaw0 (nm := meth.name) (hh := c.exceptionTable.toList.map fun h => (h.startPc, h.endPc, h.handlerPc, h.catchType)) (N := N) (K := K) (b := b) (L := L) (xs := xs) 1 hp p l e room_1 s m #[Value.ref b] below meth c D TY (va_A (re TY []) s.heap.size) s.heap [] 0 0 600128 7301098 _
    ⟨hx, hb, hml, hr, hown, fun w h => hts w (List.mem_filter.mp h).1, hlocks, rfl, (table_eq _).symm, hst, ⟨hX, hbl, hAn b hbl⟩, fun q h => Or.inr h⟩ hK (hZ _ hAn) (by show _ ≤ 2048; omega) (by show _ ≤ 84000; omega) (Nat.le_refl _) (Nat.le_refl _) (by omega) (by omega) (fun k q h => by simp [re] at h) ⟨fun i j p q h => by simp [re] at h, fun k q h => by simp [re] at h⟩ va_S.rf hl
  intro T hT X
  obtain ⟨t, a1, o, b1, b2, b3⟩ := K0 T hT X
  refine ⟨t, a1, o, b1, b2, ?_⟩
  rcases b3 with ⟨⟨⟨v, w, hv, hp9, -, -⟩, -⟩, Ls, hE, hL⟩ | ⟨q, ho, E, ce, Ls, ⟨⟨w, hp9, -⟩, -⟩, -⟩
  · subst hv
    have e1 : v = some (.int 1) := Sum.inl.inj hp9
    subst e1
    obtain ⟨f1, f2, g1, g2, g3, g4, g5, g6⟩ := hE
    refine ⟨rfl, f1, f2, g1, g2, g3, g4, g5, fun a cl ha => ?_⟩
    obtain ⟨c', k1, k2, k3, k4⟩ := g6 a cl ha
    refine ⟨c', k1, k2, k3, fun i _ => k4 i (fun hm => ?_)⟩
    exact hAn a (Array.getElem?_eq_some_iff.mp ha).1 (hL _ hm)
  · cases hp9
