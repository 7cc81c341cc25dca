set_option maxHeartbeats 4000000 in
set_option maxRecDepth 100000 in
theorem z_start {s : State} {b : Nat} (hts : ∀ w ∈ lw_tbl, w.before #[Value.ref b] s = true) (hgv : (Jvm.Cond.and given_1 narrow_1).before #[Value.ref b] s = true) : ∃ (D : va_G) (TY : Nat → ClassId), va_K D vwCl (tysOf TY) s ∧ ∀ A : Nat → Prop, (∀ a : Nat, a < s.heap.size → ¬ A a) → ZF A s s.heap := by
  have hT : ∀ w ∈ TB, w.before #[Value.ref b] s = true := fun w h => hts w (List.mem_filter.mp h).1
  have hfl := flat_of_before _ hgv
  have hkn : ∀ (k : Nat) (q : vw_C), vwCl[k]? = some q → ∃ (cC : ClassId) (iS : Nat → Nat), u_Kn s q.1 q.2.1 q.2.2 cC iS := by
    intro k q hq
    match k, hq with
    | 0, hq => cases hq; exact u_known (ws := TB) hT uw_J0 (hts (.instantiable RJ0 4) (by decide +kernel))
    | 1, hq => cases hq; exact u_known (ws := TB) hT uw_J4 (hts (.instantiable RJ4 4) (by decide +kernel))
    | 2, hq => cases hq; exact u_known (ws := TB) hT uw_X0 (hts (.instantiable RX0 6) (by decide +kernel))
    | 3, hq => cases hq; exact u_known (ws := TB) hT uw_X1 (hts (.instantiable RX1 3) (by decide +kernel))
    | 4, hq => cases hq; exact u_known (ws := TB) hT uw_X2 (hts (.instantiable RX2 2) (by decide +kernel))
    | 5, hq => cases hq; exact u_known (ws := TB) hT uw_X3 (hts (.instantiable RX3 1) (by decide +kernel))
    | 6, hq => cases hq; exact u_known (ws := TB) hT uw_X4 (hts (.instantiable RX4 1) (by decide +kernel))
    | 7, hq => cases hq; exact u_known (ws := TB) hT uw_X5 (hts (.instantiable RX5 7) (by decide +kernel))
    | 8, hq => cases hq; exact u_known (ws := TB) hT uw_X6 (hts (.instantiable RX6 2) (by decide +kernel))
    | 9, hq => cases hq; exact u_known (ws := TB) hT uw_X7 (hts (.instantiable RX7 6) (by decide +kernel))
    | k + 10, hq => simp [vwCl] at hq
  have hch : ∀ k : Nat, ∃ z : ClassId × (Nat → Nat), ∀ q : vw_C, vwCl[k]? = some q → u_Kn s q.1 q.2.1 q.2.2 z.1 z.2 := by
    intro k
    cases hk : vwCl[k]? with
    | none => exact ⟨(0, fun _ => 0), fun q h => by cases h⟩
    | some q =>
      obtain ⟨c1, i1, h1⟩ := hkn k q hk
      exact ⟨(c1, i1), fun q' h => by cases h; exact h1⟩
  obtain ⟨ch, hch⟩ := Classical.axiomOfChoice hch
  obtain ⟨cI, kI, pI, i1, i2, i3⟩ := Cond.arrayClass_spec (hts (.arrayClass .int) (by decide +kernel))
  obtain ⟨cB, kB, pB, b1, b2, b3⟩ := Cond.arrayClass_spec (hts (.arrayClass .byte) (by decide +kernel))
  obtain ⟨pM, cM, kM, m1, m2, m3, m4, m5⟩ := Cond.arrayOver_spec (hts (.arrayOver (.object "Sumlarder$Memory")) (by decide +kernel))
  obtain ⟨pL, cL, kL, l1, l2, l3, l4, l5⟩ := Cond.arrayOver_spec (hts (.arrayOver (.object "Sumlarder$Ledger")) (by decide +kernel))
  obtain ⟨pW, cW, kW, w1, w2, w3, w4, w5⟩ := Cond.arrayOver_spec (hts (.arrayOver (.object "Sumlarder$Way")) (by decide +kernel))
  have hAA := hts (.arrayOver (.array .int)) (by decide +kernel)
  obtain ⟨pA, cA, kA, a1, a2, a3, a4, a5⟩ := arrayOverA_spec hAA
  refine ⟨(fun k => (ch k).1, fun k => (ch k).2), fun k => match k with | 0 => cI | 1 => cM | 2 => cL | 3 => cW | 4 => cA | _ => cB, ⟨hch, fun k q hq => ?_⟩, fun A hA => ?_⟩
  · match k, hq with
    | 0, hq => cases hq; exact ⟨fun n z => ⟨fun k h => (by cases h), kI, i2, pI, i3⟩, i1⟩
    | 1, hq => cases hq; exact ⟨fun n z => ⟨fun k h => (by cases h), kM, m3, pM, m4⟩, kM, pM, m3, m4, m1, m5⟩
    | 2, hq => cases hq; exact ⟨fun n z => ⟨fun k h => (by cases h), kL, l3, pL, l4⟩, kL, pL, l3, l4, l1, l5⟩
    | 3, hq => cases hq; exact ⟨fun n z => ⟨fun k h => (by cases h), kW, w3, pW, w4⟩, kW, pW, w3, w4, w1, w5⟩
    | 4, hq => cases hq; exact ⟨fun n z => ⟨fun k h => (by cases h), kA, a3, pA, a4⟩, a5⟩
    | 5, hq => cases hq; exact ⟨fun n z => ⟨fun k h => (by cases h), kB, b2, pB, b3⟩, b1⟩
    | k + 6, hq => simp [tysOf] at hq
  · have hstr : ∀ q ∈ STRS, Cond.stringRef q.1 q.2.1 q.2.2 ∈ lw_tbl ∧ Cond.exactly (.string q.1 q.2.1) "java/lang/String" ∈ flatC (Jvm.Cond.and given_1 narrow_1) := by decide +kernel
    have hin : ∀ (k : Nat) (g : Nat → Cond), ((flatC (Jvm.Cond.and given_1 narrow_1)).drop k).take 100 = (List.range 100).map g → ∀ j, j < 100 → g j ∈ flatC (Jvm.Cond.and given_1 narrow_1) := by
      intro k g h j hj
      have h1 : g j ∈ (List.range 100).map g := List.mem_map.mpr ⟨j, List.mem_range.mpr hj, rfl⟩
      rw [← h] at h1
      exact List.mem_of_mem_drop (List.mem_of_mem_take h1)
    have hd1 := hin 14 (fun j => Cond.eq (.elem (.static "java/lang/Integer" "DigitOnes" "[B") (.int (Int32.ofNat j))) (.int (Int32.ofNat (48 + j % 10)))) (by decide +kernel)
    have hd2 := hin 117 (fun j => Cond.eq (.elem (.static "java/lang/Integer" "DigitTens" "[B") (.int (Int32.ofNat j))) (.int (Int32.ofNat (48 + j / 10)))) (by decide +kernel)
    have htab : ∀ q ∈ TABS, Cond.laysStatic "java/lang/Integer" q.1 "[B" ∈ lw_tbl ∧ Cond.arrayOf (.static "java/lang/Integer" q.1 "[B") .byte ∈ flatC (Jvm.Cond.and given_1 narrow_1) ∧ Cond.eq (.length (.static "java/lang/Integer" q.1 "[B")) (.int (Int32.ofNat 100)) ∈ flatC (Jvm.Cond.and given_1 narrow_1) ∧ ∀ j, j < 100 → Cond.eq (.elem (.static "java/lang/Integer" q.1 "[B") (.int (Int32.ofNat j))) (.int (q.2 j)) ∈ flatC (Jvm.Cond.and given_1 narrow_1) := by
      intro q hq
      rcases List.mem_cons.mp hq with rfl | hq
      · exact ⟨by decide +kernel, by decide +kernel, by decide +kernel, hd1⟩
      · rcases List.mem_cons.mp hq with rfl | hq
        · exact ⟨by decide +kernel, by decide +kernel, by decide +kernel, hd2⟩
        · cases hq
    refine ⟨vx_Zqof (hts (.laysStatic Bundle.tN "UNASSIGNED_STACK" Bundle.steD) (by decide +kernel)) (hts (.initialized Bundle.tN) (by decide +kernel)) (hfl (.isRef (.static Bundle.tN "UNASSIGNED_STACK" Bundle.steD)) (by decide +kernel)) hA, vx_Zqof (hts (.laysStatic Bundle.tN "SUPPRESSED_SENTINEL" Bundle.listD) (by decide +kernel)) (hts (.initialized Bundle.tN) (by decide +kernel)) (hfl (.isRef (.static Bundle.tN "SUPPRESSED_SENTINEL" Bundle.listD)) (by decide +kernel)) hA, va_Zof (hts (.laysStatic "java/lang/String" "COMPACT_STRINGS" "Z") (by decide +kernel)) (hts (.initialized "java/lang/String") (by decide +kernel)) (va_eqt (hfl (.eq (.static "java/lang/String" "COMPACT_STRINGS" "Z") (.int 1)) (by decide +kernel))) hA, fun q hq => ?_, fun C hC => ?_, fun w hw => ?_, va_AOA.of hAA, va_Nc.of (hfl (.not (.castable "java/lang/IllegalArgumentException" "java/lang/IndexOutOfBoundsException")) (by decide +kernel)), fun q hq => ?_⟩
    · obtain ⟨h1, h2⟩ := hstr q hq
      obtain ⟨a, c, cell, k, e1, -⟩ := Cond.exactly_spec (hfl _ h2)
      exact ⟨a, vk_R.of (hts _ h1) e1⟩
    · have h1 : Cond.arrayOver (.object C) ∈ lw_tbl := by
        have h2 : ∀ C ∈ AOS, Cond.arrayOver (.object C) ∈ lw_tbl := by decide +kernel
        exact h2 C hC
      exact va_AO.of (hts _ h1)
    · exact va_Nw.of (ngw_tabs (List.mem_filter.mp hw).2) (hts w (List.mem_append_right _ (List.mem_filter.mp hw).1))
    · obtain ⟨h1, h2, h3, h4⟩ := htab q hq
      obtain ⟨t, ht, hT1⟩ := va_Tof (args := #[Value.ref b]) (s := s) (tm := .static "java/lang/Integer" q.1 "[B") (ty := .byte) (N := 100) (f := fun j => .int (q.2 j)) (A := A) (by decide) (hfl _ h2) (va_eqt (hfl _ h3)) (fun j hj => va_eqt (hfl _ (h4 j hj))) hA
      exact ⟨t, va_Zof (hts _ h1) (hts (.initialized "java/lang/Integer") (by decide +kernel)) ht hA, hT1⟩

