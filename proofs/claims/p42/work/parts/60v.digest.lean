/-! ===== the checksum on both sides ===== -/
theorem x_ab0 {N K : Nat} {sz p0 : Int32} {f g : Nat → Int32} (h : MT sz f g) (d : Rg p0 0 2) : fX5_about N K sz f p0 (0 : Int32) = some (.inl (Int32.ofNat (cnt f))) := by
  unfold fX5_about
  rw [k_mem1 d, xb_l, k_rng1 (by unfold Rg; decide), xb_l, if_pos rfl, ← h.1]
  rfl
def mkf (f : Nat → Int32) : Int32 := ss (tlc 1 f) 2646
theorem x_ab1 {N K : Nat} (hN : NBig N) {sz p0 : Int32} {f : Nat → Int32} (d : Rg p0 0 2) : fX5_about N K sz f p0 (1 : Int32) = some (.inl (mkf f)) := by
  have hN9 := hN.u
  have em := c_mark_ (N := N) (K := K) (sz := sz) (f := f) 2646 0 N rfl (by omega)
  have em' : fX2_mark N K sz f = some (mkf f) := em
  unfold fX5_about
  rw [k_mem1 d, xb_l, k_rng1 (by unfold Rg; decide), xb_l, if_neg (by decide), if_pos rfl, em', Option.bind_some]
theorem y_ab1 {N K : Nat} (hN : NBig N) {sz th p0 : Int32} {f g : Nat → Int32} (hp0 : Rg p0 0 2) (h : MT sz f g) : fX7_told2 N K th g p0 (1 : Int32) = some (mkf f) := by
  have e := m_t2 (N := N) (K := K) (th := th) (w := 1) hN hp0 h
  rw [if_neg (by decide)] at e
  exact e
theorem x_le0 {N K r : Nat} {ru sz p0 : Int32} {f g : Nat → Int32} (h : LT r sz f g) (d : Rg p0 0 2) : fX5_ledger N K ru sz f p0 (0 : Int32) = some (.inl (Int32.ofNat (lcnt f))) := by
  unfold fX5_ledger
  rw [k_led1 d, xb_l, k_rng1 (by unfold Rg; decide), xb_l, if_pos rfl, ← h.1]
  rfl
theorem x_le1 {N K : Nat} (hN : 100 ≤ N) {ru sz p0 : Int32} {f : Nat → Int32} (d : Rg p0 0 2) : fX5_ledger N K ru sz f p0 (1 : Int32) = some (.inl (lms f 20)) := by
  have em := c_lmark_ (N := N) (K := K) (ru := ru) (sz := sz) (f := f) 20 0 N rfl (by omega)
  have em' : fX1_mark N K ru sz f = some (lms f 20) := em
  unfold fX5_ledger
  rw [k_led1 d, xb_l, k_rng1 (by unfold Rg; decide), xb_l, if_neg (by decide), em', Option.bind_some]
theorem x_w0 {N K : Nat} (hN : 100 ≤ N) {p0 : Int32} {f : Nat → Int32} {w : Nat → Nat} (hf : Dk f w) (d : Rg p0 0 1) : fX5_way N K f p0 (0 : Int32) = some (.inl (Int32.ofNat (wn w))) := by
  unfold fX5_way
  rw [k_desk1 d, xb_l, k_rng1 (by unfold Rg; decide), xb_l, if_pos rfl, c_sum hN hf.2, Option.bind_some]
theorem x_w1 {N K : Nat} (hN : 100 ≤ N) {p0 : Int32} {f : Nat → Int32} {w : Nat → Nat} (hf : Dk f w) (d : Rg p0 0 1) : fX5_way N K f p0 (1 : Int32) = some (.inl (Int32.ofNat (wp w))) := by
  unfold fX5_way
  rw [k_desk1 d, xb_l, k_rng1 (by unfold Rg; decide), xb_l, if_neg (by decide), if_pos rfl, c_parts hN hf.2, Option.bind_some]
theorem x_ti {N K i : Nat} {p0 : Int32} {f : Nat → Int32} {w : Nat → Nat} (hf : Dk f w) (d : Rg p0 0 1) (h1 : 1 ≤ i) (h2 : i ≤ 20) (hr : Rg (Int32.ofNat i) 1 20) : fX5_times N K f p0 (Int32.ofNat i) = some (.inl (Int32.ofNat (w i))) := by
  unfold fX5_times
  rw [k_desk1 d, xb_l, k_rng1 hr, xb_l, c_times hf.2 h1 h2, Option.bind_some]
theorem c31 (d : Int64) : (31 : Int64) * d = d * (31 : Int64) := Int64.mul_comm _ _
set_option maxRecDepth 100000 in
set_option maxHeartbeats 4000000 in
theorem ty_digest {N K : Nat} {th ms0 ms1 ms2 ru0 ls0 ru1 ls1 ru2 ls2 c0 c1 c2 c3 c4 c5 : Int32} {mf0 mf1 mf2 lf0 lf1 lf2 df0 df1 g0 g1 g2 q0 q1 q2 de0 de1 t : Nat → Int32} (hN : NBig N) (hK : 100 ≤ K) (h0 : MT ms0 mf0 g0) (h1 : MT ms1 mf1 g1) (h2 : MT ms2 mf2 g2) (l0 : LT 0 ls0 lf0 q0) (l1 : LT 1 ls1 lf1 q1) (l2 : LT 2 ls2 lf2 q2) (hd0 : DD df0 de0) (hd1 : DD df1 de1) (ct0 : c0 = t 0) (ct1 : c1 = t 1) (ct2 : c2 = t 2) (ct3 : c3 = t 3) (ct4 : c4 = t 4) (ct5 : c5 = t 5) : ∃ v, fX5_digest N K ms0 mf0 ms1 mf1 ms2 mf2 ru0 ls0 lf0 ru1 ls1 lf1 ru2 ls2 lf2 df0 df1 c0 c1 c2 c3 c4 c5 = some (.inl v) ∧ fX7_digest N K th g0 g1 g2 q0 q1 q2 de0 de1 t = some (v, 0) := by
  have hN9 := hN.u
  have hN1 : 100 ≤ N := by omega
  obtain ⟨w0, a0, b0⟩ := hd0
  obtain ⟨w1, a1, b1⟩ := hd1
  have rg0 : Rg (0 : Int32) 0 2 := by unfold Rg; decide
  have rg1 : Rg (1 : Int32) 0 2 := by unfold Rg; decide
  have rg2 : Rg (2 : Int32) 0 2 := by unfold Rg; decide
  have rd0 : Rg (0 : Int32) 0 1 := by unfold Rg; decide
  have rd1 : Rg (1 : Int32) 0 1 := by unfold Rg; decide
  have ya0 : fX7_told2 N K (0 : Int32) g0 (0 : Int32) (0 : Int32) = some (Int32.ofNat (cnt mf0)) := m_cnt0 hN rg0 h0
  have yb0 : fX7_told2 N K (0 : Int32) g0 (0 : Int32) (1 : Int32) = some (mkf mf0) := y_ab1 hN rg0 h0
  have ya1 : fX7_told2 N K (0 : Int32) g1 (1 : Int32) (0 : Int32) = some (Int32.ofNat (cnt mf1)) := m_cnt0 hN rg1 h1
  have yb1 : fX7_told2 N K (0 : Int32) g1 (1 : Int32) (1 : Int32) = some (mkf mf1) := y_ab1 hN rg1 h1
  have ya2 : fX7_told2 N K (0 : Int32) g2 (2 : Int32) (0 : Int32) = some (Int32.ofNat (cnt mf2)) := m_cnt0 hN rg2 h2
  have yb2 : fX7_told2 N K (0 : Int32) g2 (2 : Int32) (1 : Int32) = some (mkf mf2) := y_ab1 hN rg2 h2
  have yc0 : fX7_ledgerTold N K (0 : Int32) q0 (0 : Int32) (0 : Int32) = some (Int32.ofNat (lcnt lf0)) := by
    have e := m_lt (N := N) (K := K) (r := 0) (th := (0 : Int32)) hN1 (by omega) rg0 l0.2.1 l0.2.2 (w := 0) (by omega)
    rw [if_pos rfl] at e
    exact e
  have yd0 : fX7_ledgerTold N K (0 : Int32) q0 (0 : Int32) (1 : Int32) = some (lms lf0 20) := by
    have e := m_lt (N := N) (K := K) (r := 0) (th := (0 : Int32)) hN1 (by omega) rg0 l0.2.1 l0.2.2 (w := 1) (by omega)
    rw [if_neg (by decide)] at e
    exact e
  have yc1 : fX7_ledgerTold N K (0 : Int32) q1 (1 : Int32) (0 : Int32) = some (Int32.ofNat (lcnt lf1)) := by
    have e := m_lt (N := N) (K := K) (r := 1) (th := (0 : Int32)) hN1 (by omega) rg1 l1.2.1 l1.2.2 (w := 0) (by omega)
    rw [if_pos rfl] at e
    exact e
  have yd1 : fX7_ledgerTold N K (0 : Int32) q1 (1 : Int32) (1 : Int32) = some (lms lf1 20) := by
    have e := m_lt (N := N) (K := K) (r := 1) (th := (0 : Int32)) hN1 (by omega) rg1 l1.2.1 l1.2.2 (w := 1) (by omega)
    rw [if_neg (by decide)] at e
    exact e
  have yc2 : fX7_ledgerTold N K (0 : Int32) q2 (2 : Int32) (0 : Int32) = some (Int32.ofNat (lcnt lf2)) := by
    have e := m_lt (N := N) (K := K) (r := 2) (th := (0 : Int32)) hN1 (by omega) rg2 l2.2.1 l2.2.2 (w := 0) (by omega)
    rw [if_pos rfl] at e
    exact e
  have yd2 : fX7_ledgerTold N K (0 : Int32) q2 (2 : Int32) (1 : Int32) = some (lms lf2 20) := by
    have e := m_lt (N := N) (K := K) (r := 2) (th := (0 : Int32)) hN1 (by omega) rg2 l2.2.1 l2.2.2 (w := 1) (by omega)
    rw [if_neg (by decide)] at e
    exact e
  have xt0_1 : fX5_times N K df0 (0 : Int32) (1 : Int32) = some (.inl (Int32.ofNat (w0 1))) := x_ti (i := 1) a0 rd0 (by omega) (by omega) (by unfold Rg; decide)
  have ye0_1 : de0 (1 : Int32).toNatClampNeg = Int32.ofNat (w0 1) := b0.2 1 (by omega) (by omega)
  have xt0_2 : fX5_times N K df0 (0 : Int32) (2 : Int32) = some (.inl (Int32.ofNat (w0 2))) := x_ti (i := 2) a0 rd0 (by omega) (by omega) (by unfold Rg; decide)
  have ye0_2 : de0 (2 : Int32).toNatClampNeg = Int32.ofNat (w0 2) := b0.2 2 (by omega) (by omega)
  have xt0_3 : fX5_times N K df0 (0 : Int32) (3 : Int32) = some (.inl (Int32.ofNat (w0 3))) := x_ti (i := 3) a0 rd0 (by omega) (by omega) (by unfold Rg; decide)
  have ye0_3 : de0 (3 : Int32).toNatClampNeg = Int32.ofNat (w0 3) := b0.2 3 (by omega) (by omega)
  have xt0_4 : fX5_times N K df0 (0 : Int32) (4 : Int32) = some (.inl (Int32.ofNat (w0 4))) := x_ti (i := 4) a0 rd0 (by omega) (by omega) (by unfold Rg; decide)
  have ye0_4 : de0 (4 : Int32).toNatClampNeg = Int32.ofNat (w0 4) := b0.2 4 (by omega) (by omega)
  have xt0_5 : fX5_times N K df0 (0 : Int32) (5 : Int32) = some (.inl (Int32.ofNat (w0 5))) := x_ti (i := 5) a0 rd0 (by omega) (by omega) (by unfold Rg; decide)
  have ye0_5 : de0 (5 : Int32).toNatClampNeg = Int32.ofNat (w0 5) := b0.2 5 (by omega) (by omega)
  have xt0_6 : fX5_times N K df0 (0 : Int32) (6 : Int32) = some (.inl (Int32.ofNat (w0 6))) := x_ti (i := 6) a0 rd0 (by omega) (by omega) (by unfold Rg; decide)
  have ye0_6 : de0 (6 : Int32).toNatClampNeg = Int32.ofNat (w0 6) := b0.2 6 (by omega) (by omega)
  have xt0_7 : fX5_times N K df0 (0 : Int32) (7 : Int32) = some (.inl (Int32.ofNat (w0 7))) := x_ti (i := 7) a0 rd0 (by omega) (by omega) (by unfold Rg; decide)
  have ye0_7 : de0 (7 : Int32).toNatClampNeg = Int32.ofNat (w0 7) := b0.2 7 (by omega) (by omega)
  have xt0_8 : fX5_times N K df0 (0 : Int32) (8 : Int32) = some (.inl (Int32.ofNat (w0 8))) := x_ti (i := 8) a0 rd0 (by omega) (by omega) (by unfold Rg; decide)
  have ye0_8 : de0 (8 : Int32).toNatClampNeg = Int32.ofNat (w0 8) := b0.2 8 (by omega) (by omega)
  have xt0_9 : fX5_times N K df0 (0 : Int32) (9 : Int32) = some (.inl (Int32.ofNat (w0 9))) := x_ti (i := 9) a0 rd0 (by omega) (by omega) (by unfold Rg; decide)
  have ye0_9 : de0 (9 : Int32).toNatClampNeg = Int32.ofNat (w0 9) := b0.2 9 (by omega) (by omega)
  have xt0_10 : fX5_times N K df0 (0 : Int32) (10 : Int32) = some (.inl (Int32.ofNat (w0 10))) := x_ti (i := 10) a0 rd0 (by omega) (by omega) (by unfold Rg; decide)
  have ye0_10 : de0 (10 : Int32).toNatClampNeg = Int32.ofNat (w0 10) := b0.2 10 (by omega) (by omega)
  have xt0_11 : fX5_times N K df0 (0 : Int32) (11 : Int32) = some (.inl (Int32.ofNat (w0 11))) := x_ti (i := 11) a0 rd0 (by omega) (by omega) (by unfold Rg; decide)
  have ye0_11 : de0 (11 : Int32).toNatClampNeg = Int32.ofNat (w0 11) := b0.2 11 (by omega) (by omega)
  have xt0_12 : fX5_times N K df0 (0 : Int32) (12 : Int32) = some (.inl (Int32.ofNat (w0 12))) := x_ti (i := 12) a0 rd0 (by omega) (by omega) (by unfold Rg; decide)
  have ye0_12 : de0 (12 : Int32).toNatClampNeg = Int32.ofNat (w0 12) := b0.2 12 (by omega) (by omega)
  have xt0_13 : fX5_times N K df0 (0 : Int32) (13 : Int32) = some (.inl (Int32.ofNat (w0 13))) := x_ti (i := 13) a0 rd0 (by omega) (by omega) (by unfold Rg; decide)
  have ye0_13 : de0 (13 : Int32).toNatClampNeg = Int32.ofNat (w0 13) := b0.2 13 (by omega) (by omega)
  have xt0_14 : fX5_times N K df0 (0 : Int32) (14 : Int32) = some (.inl (Int32.ofNat (w0 14))) := x_ti (i := 14) a0 rd0 (by omega) (by omega) (by unfold Rg; decide)
  have ye0_14 : de0 (14 : Int32).toNatClampNeg = Int32.ofNat (w0 14) := b0.2 14 (by omega) (by omega)
  have xt0_15 : fX5_times N K df0 (0 : Int32) (15 : Int32) = some (.inl (Int32.ofNat (w0 15))) := x_ti (i := 15) a0 rd0 (by omega) (by omega) (by unfold Rg; decide)
  have ye0_15 : de0 (15 : Int32).toNatClampNeg = Int32.ofNat (w0 15) := b0.2 15 (by omega) (by omega)
  have xt0_16 : fX5_times N K df0 (0 : Int32) (16 : Int32) = some (.inl (Int32.ofNat (w0 16))) := x_ti (i := 16) a0 rd0 (by omega) (by omega) (by unfold Rg; decide)
  have ye0_16 : de0 (16 : Int32).toNatClampNeg = Int32.ofNat (w0 16) := b0.2 16 (by omega) (by omega)
  have xt0_17 : fX5_times N K df0 (0 : Int32) (17 : Int32) = some (.inl (Int32.ofNat (w0 17))) := x_ti (i := 17) a0 rd0 (by omega) (by omega) (by unfold Rg; decide)
  have ye0_17 : de0 (17 : Int32).toNatClampNeg = Int32.ofNat (w0 17) := b0.2 17 (by omega) (by omega)
  have xt0_18 : fX5_times N K df0 (0 : Int32) (18 : Int32) = some (.inl (Int32.ofNat (w0 18))) := x_ti (i := 18) a0 rd0 (by omega) (by omega) (by unfold Rg; decide)
  have ye0_18 : de0 (18 : Int32).toNatClampNeg = Int32.ofNat (w0 18) := b0.2 18 (by omega) (by omega)
  have xt0_19 : fX5_times N K df0 (0 : Int32) (19 : Int32) = some (.inl (Int32.ofNat (w0 19))) := x_ti (i := 19) a0 rd0 (by omega) (by omega) (by unfold Rg; decide)
  have ye0_19 : de0 (19 : Int32).toNatClampNeg = Int32.ofNat (w0 19) := b0.2 19 (by omega) (by omega)
  have xt0_20 : fX5_times N K df0 (0 : Int32) (20 : Int32) = some (.inl (Int32.ofNat (w0 20))) := x_ti (i := 20) a0 rd0 (by omega) (by omega) (by unfold Rg; decide)
  have ye0_20 : de0 (20 : Int32).toNatClampNeg = Int32.ofNat (w0 20) := b0.2 20 (by omega) (by omega)
  have xt1_1 : fX5_times N K df1 (1 : Int32) (1 : Int32) = some (.inl (Int32.ofNat (w1 1))) := x_ti (i := 1) a1 rd1 (by omega) (by omega) (by unfold Rg; decide)
  have ye1_1 : de1 (1 : Int32).toNatClampNeg = Int32.ofNat (w1 1) := b1.2 1 (by omega) (by omega)
  have xt1_2 : fX5_times N K df1 (1 : Int32) (2 : Int32) = some (.inl (Int32.ofNat (w1 2))) := x_ti (i := 2) a1 rd1 (by omega) (by omega) (by unfold Rg; decide)
  have ye1_2 : de1 (2 : Int32).toNatClampNeg = Int32.ofNat (w1 2) := b1.2 2 (by omega) (by omega)
  have xt1_3 : fX5_times N K df1 (1 : Int32) (3 : Int32) = some (.inl (Int32.ofNat (w1 3))) := x_ti (i := 3) a1 rd1 (by omega) (by omega) (by unfold Rg; decide)
  have ye1_3 : de1 (3 : Int32).toNatClampNeg = Int32.ofNat (w1 3) := b1.2 3 (by omega) (by omega)
  have xt1_4 : fX5_times N K df1 (1 : Int32) (4 : Int32) = some (.inl (Int32.ofNat (w1 4))) := x_ti (i := 4) a1 rd1 (by omega) (by omega) (by unfold Rg; decide)
  have ye1_4 : de1 (4 : Int32).toNatClampNeg = Int32.ofNat (w1 4) := b1.2 4 (by omega) (by omega)
  have xt1_5 : fX5_times N K df1 (1 : Int32) (5 : Int32) = some (.inl (Int32.ofNat (w1 5))) := x_ti (i := 5) a1 rd1 (by omega) (by omega) (by unfold Rg; decide)
  have ye1_5 : de1 (5 : Int32).toNatClampNeg = Int32.ofNat (w1 5) := b1.2 5 (by omega) (by omega)
  have xt1_6 : fX5_times N K df1 (1 : Int32) (6 : Int32) = some (.inl (Int32.ofNat (w1 6))) := x_ti (i := 6) a1 rd1 (by omega) (by omega) (by unfold Rg; decide)
  have ye1_6 : de1 (6 : Int32).toNatClampNeg = Int32.ofNat (w1 6) := b1.2 6 (by omega) (by omega)
  have xt1_7 : fX5_times N K df1 (1 : Int32) (7 : Int32) = some (.inl (Int32.ofNat (w1 7))) := x_ti (i := 7) a1 rd1 (by omega) (by omega) (by unfold Rg; decide)
  have ye1_7 : de1 (7 : Int32).toNatClampNeg = Int32.ofNat (w1 7) := b1.2 7 (by omega) (by omega)
  have xt1_8 : fX5_times N K df1 (1 : Int32) (8 : Int32) = some (.inl (Int32.ofNat (w1 8))) := x_ti (i := 8) a1 rd1 (by omega) (by omega) (by unfold Rg; decide)
  have ye1_8 : de1 (8 : Int32).toNatClampNeg = Int32.ofNat (w1 8) := b1.2 8 (by omega) (by omega)
  have xt1_9 : fX5_times N K df1 (1 : Int32) (9 : Int32) = some (.inl (Int32.ofNat (w1 9))) := x_ti (i := 9) a1 rd1 (by omega) (by omega) (by unfold Rg; decide)
  have ye1_9 : de1 (9 : Int32).toNatClampNeg = Int32.ofNat (w1 9) := b1.2 9 (by omega) (by omega)
  have xt1_10 : fX5_times N K df1 (1 : Int32) (10 : Int32) = some (.inl (Int32.ofNat (w1 10))) := x_ti (i := 10) a1 rd1 (by omega) (by omega) (by unfold Rg; decide)
  have ye1_10 : de1 (10 : Int32).toNatClampNeg = Int32.ofNat (w1 10) := b1.2 10 (by omega) (by omega)
  have xt1_11 : fX5_times N K df1 (1 : Int32) (11 : Int32) = some (.inl (Int32.ofNat (w1 11))) := x_ti (i := 11) a1 rd1 (by omega) (by omega) (by unfold Rg; decide)
  have ye1_11 : de1 (11 : Int32).toNatClampNeg = Int32.ofNat (w1 11) := b1.2 11 (by omega) (by omega)
  have xt1_12 : fX5_times N K df1 (1 : Int32) (12 : Int32) = some (.inl (Int32.ofNat (w1 12))) := x_ti (i := 12) a1 rd1 (by omega) (by omega) (by unfold Rg; decide)
  have ye1_12 : de1 (12 : Int32).toNatClampNeg = Int32.ofNat (w1 12) := b1.2 12 (by omega) (by omega)
  have xt1_13 : fX5_times N K df1 (1 : Int32) (13 : Int32) = some (.inl (Int32.ofNat (w1 13))) := x_ti (i := 13) a1 rd1 (by omega) (by omega) (by unfold Rg; decide)
  have ye1_13 : de1 (13 : Int32).toNatClampNeg = Int32.ofNat (w1 13) := b1.2 13 (by omega) (by omega)
  have xt1_14 : fX5_times N K df1 (1 : Int32) (14 : Int32) = some (.inl (Int32.ofNat (w1 14))) := x_ti (i := 14) a1 rd1 (by omega) (by omega) (by unfold Rg; decide)
  have ye1_14 : de1 (14 : Int32).toNatClampNeg = Int32.ofNat (w1 14) := b1.2 14 (by omega) (by omega)
  have xt1_15 : fX5_times N K df1 (1 : Int32) (15 : Int32) = some (.inl (Int32.ofNat (w1 15))) := x_ti (i := 15) a1 rd1 (by omega) (by omega) (by unfold Rg; decide)
  have ye1_15 : de1 (15 : Int32).toNatClampNeg = Int32.ofNat (w1 15) := b1.2 15 (by omega) (by omega)
  have xt1_16 : fX5_times N K df1 (1 : Int32) (16 : Int32) = some (.inl (Int32.ofNat (w1 16))) := x_ti (i := 16) a1 rd1 (by omega) (by omega) (by unfold Rg; decide)
  have ye1_16 : de1 (16 : Int32).toNatClampNeg = Int32.ofNat (w1 16) := b1.2 16 (by omega) (by omega)
  have xt1_17 : fX5_times N K df1 (1 : Int32) (17 : Int32) = some (.inl (Int32.ofNat (w1 17))) := x_ti (i := 17) a1 rd1 (by omega) (by omega) (by unfold Rg; decide)
  have ye1_17 : de1 (17 : Int32).toNatClampNeg = Int32.ofNat (w1 17) := b1.2 17 (by omega) (by omega)
  have xt1_18 : fX5_times N K df1 (1 : Int32) (18 : Int32) = some (.inl (Int32.ofNat (w1 18))) := x_ti (i := 18) a1 rd1 (by omega) (by omega) (by unfold Rg; decide)
  have ye1_18 : de1 (18 : Int32).toNatClampNeg = Int32.ofNat (w1 18) := b1.2 18 (by omega) (by omega)
  have xt1_19 : fX5_times N K df1 (1 : Int32) (19 : Int32) = some (.inl (Int32.ofNat (w1 19))) := x_ti (i := 19) a1 rd1 (by omega) (by omega) (by unfold Rg; decide)
  have ye1_19 : de1 (19 : Int32).toNatClampNeg = Int32.ofNat (w1 19) := b1.2 19 (by omega) (by omega)
  have xt1_20 : fX5_times N K df1 (1 : Int32) (20 : Int32) = some (.inl (Int32.ofNat (w1 20))) := x_ti (i := 20) a1 rd1 (by omega) (by omega) (by unfold Rg; decide)
  have ye1_20 : de1 (20 : Int32).toNatClampNeg = Int32.ofNat (w1 20) := b1.2 20 (by omega) (by omega)
  have xc0 : fX5_tally N K c0 c1 c2 c3 c4 c5 (0 : Int32) = some (.inl (t 0)) := by
    unfold fX5_tally
    rw [k_rng1 (by unfold Rg; decide), xb_l, if_pos rfl, ct0]
  have yt0 : t (0 : Int32).toNatClampNeg = t 0 := rfl
  have xc1 : fX5_tally N K c0 c1 c2 c3 c4 c5 (1 : Int32) = some (.inl (t 1)) := by
    unfold fX5_tally
    rw [k_rng1 (by unfold Rg; decide), xb_l, if_neg (by decide), if_pos rfl, ct1]
  have yt1 : t (1 : Int32).toNatClampNeg = t 1 := rfl
  have xc2 : fX5_tally N K c0 c1 c2 c3 c4 c5 (2 : Int32) = some (.inl (t 2)) := by
    unfold fX5_tally
    rw [k_rng1 (by unfold Rg; decide), xb_l, if_neg (by decide), if_neg (by decide), if_pos rfl, ct2]
  have yt2 : t (2 : Int32).toNatClampNeg = t 2 := rfl
  have xc3 : fX5_tally N K c0 c1 c2 c3 c4 c5 (3 : Int32) = some (.inl (t 3)) := by
    unfold fX5_tally
    rw [k_rng1 (by unfold Rg; decide), xb_l, if_neg (by decide), if_neg (by decide), if_neg (by decide), if_pos rfl, ct3]
  have yt3 : t (3 : Int32).toNatClampNeg = t 3 := rfl
  have xc4 : fX5_tally N K c0 c1 c2 c3 c4 c5 (4 : Int32) = some (.inl (t 4)) := by
    unfold fX5_tally
    rw [k_rng1 (by unfold Rg; decide), xb_l, if_neg (by decide), if_neg (by decide), if_neg (by decide), if_neg (by decide), if_pos rfl, ct4]
  have yt4 : t (4 : Int32).toNatClampNeg = t 4 := rfl
  have xc5 : fX5_tally N K c0 c1 c2 c3 c4 c5 (5 : Int32) = some (.inl (t 5)) := by
    unfold fX5_tally
    rw [k_rng1 (by unfold Rg; decide), xb_l, if_neg (by decide), if_neg (by decide), if_neg (by decide), if_neg (by decide), if_neg (by decide), ct5]
  have yt5 : t (5 : Int32).toNatClampNeg = t 5 := rfl
  refine ⟨(((((((((((((((((((((((((((((((((((((((((((((((((((((((((((((((7978 : Int64) * (31 : Int64) + (Int32.ofNat (cnt mf0)).toInt64) * (31 : Int64) + (mkf mf0).toInt64) * (31 : Int64) + (Int32.ofNat (cnt mf1)).toInt64) * (31 : Int64) + (mkf mf1).toInt64) * (31 : Int64) + (Int32.ofNat (cnt mf2)).toInt64) * (31 : Int64) + (mkf mf2).toInt64) * (31 : Int64) + (Int32.ofNat (lcnt lf0)).toInt64) * (31 : Int64) + (lms lf0 20).toInt64) * (31 : Int64) + (Int32.ofNat (lcnt lf1)).toInt64) * (31 : Int64) + (lms lf1 20).toInt64) * (31 : Int64) + (Int32.ofNat (lcnt lf2)).toInt64) * (31 : Int64) + (lms lf2 20).toInt64) * (31 : Int64) + (Int32.ofNat (wn w0)).toInt64) * (31 : Int64) + (Int32.ofNat (wp w0)).toInt64) * (31 : Int64) + (Int32.ofNat (w0 1)).toInt64) * (31 : Int64) + (Int32.ofNat (w0 2)).toInt64) * (31 : Int64) + (Int32.ofNat (w0 3)).toInt64) * (31 : Int64) + (Int32.ofNat (w0 4)).toInt64) * (31 : Int64) + (Int32.ofNat (w0 5)).toInt64) * (31 : Int64) + (Int32.ofNat (w0 6)).toInt64) * (31 : Int64) + (Int32.ofNat (w0 7)).toInt64) * (31 : Int64) + (Int32.ofNat (w0 8)).toInt64) * (31 : Int64) + (Int32.ofNat (w0 9)).toInt64) * (31 : Int64) + (Int32.ofNat (w0 10)).toInt64) * (31 : Int64) + (Int32.ofNat (w0 11)).toInt64) * (31 : Int64) + (Int32.ofNat (w0 12)).toInt64) * (31 : Int64) + (Int32.ofNat (w0 13)).toInt64) * (31 : Int64) + (Int32.ofNat (w0 14)).toInt64) * (31 : Int64) + (Int32.ofNat (w0 15)).toInt64) * (31 : Int64) + (Int32.ofNat (w0 16)).toInt64) * (31 : Int64) + (Int32.ofNat (w0 17)).toInt64) * (31 : Int64) + (Int32.ofNat (w0 18)).toInt64) * (31 : Int64) + (Int32.ofNat (w0 19)).toInt64) * (31 : Int64) + (Int32.ofNat (w0 20)).toInt64) * (31 : Int64) + (Int32.ofNat (wn w1)).toInt64) * (31 : Int64) + (Int32.ofNat (wp w1)).toInt64) * (31 : Int64) + (Int32.ofNat (w1 1)).toInt64) * (31 : Int64) + (Int32.ofNat (w1 2)).toInt64) * (31 : Int64) + (Int32.ofNat (w1 3)).toInt64) * (31 : Int64) + (Int32.ofNat (w1 4)).toInt64) * (31 : Int64) + (Int32.ofNat (w1 5)).toInt64) * (31 : Int64) + (Int32.ofNat (w1 6)).toInt64) * (31 : Int64) + (Int32.ofNat (w1 7)).toInt64) * (31 : Int64) + (Int32.ofNat (w1 8)).toInt64) * (31 : Int64) + (Int32.ofNat (w1 9)).toInt64) * (31 : Int64) + (Int32.ofNat (w1 10)).toInt64) * (31 : Int64) + (Int32.ofNat (w1 11)).toInt64) * (31 : Int64) + (Int32.ofNat (w1 12)).toInt64) * (31 : Int64) + (Int32.ofNat (w1 13)).toInt64) * (31 : Int64) + (Int32.ofNat (w1 14)).toInt64) * (31 : Int64) + (Int32.ofNat (w1 15)).toInt64) * (31 : Int64) + (Int32.ofNat (w1 16)).toInt64) * (31 : Int64) + (Int32.ofNat (w1 17)).toInt64) * (31 : Int64) + (Int32.ofNat (w1 18)).toInt64) * (31 : Int64) + (Int32.ofNat (w1 19)).toInt64) * (31 : Int64) + (Int32.ofNat (w1 20)).toInt64) * (31 : Int64) + (t 0).toInt64) * (31 : Int64) + (t 1).toInt64) * (31 : Int64) + (t 2).toInt64) * (31 : Int64) + (t 3).toInt64) * (31 : Int64) + (t 4).toInt64) * (31 : Int64) + (t 5).toInt64), ?_, ?_⟩
  · unfold fX5_digest
    rw [x_ab0 h0 rg0, xb_l, x_ab1 hN rg0, xb_l, x_ab0 h1 rg1, xb_l, x_ab1 hN rg1, xb_l, x_ab0 h2 rg2, xb_l, x_ab1 hN rg2, xb_l, x_le0 l0 rg0, xb_l, x_le1 hN1 rg0, xb_l, x_le0 l1 rg1, xb_l, x_le1 hN1 rg1, xb_l, x_le0 l2 rg2, xb_l, x_le1 hN1 rg2, xb_l, x_w0 hN1 a0 rd0, xb_l, x_w1 hN1 a0 rd0, xb_l, xt0_1, xb_l, xt0_2, xb_l, xt0_3, xb_l, xt0_4, xb_l, xt0_5, xb_l, xt0_6, xb_l, xt0_7, xb_l, xt0_8, xb_l, xt0_9, xb_l, xt0_10, xb_l, xt0_11, xb_l, xt0_12, xb_l, xt0_13, xb_l, xt0_14, xb_l, xt0_15, xb_l, xt0_16, xb_l, xt0_17, xb_l, xt0_18, xb_l, xt0_19, xb_l, xt0_20, xb_l, x_w0 hN1 a1 rd1, xb_l, x_w1 hN1 a1 rd1, xb_l, xt1_1, xb_l, xt1_2, xb_l, xt1_3, xb_l, xt1_4, xb_l, xt1_5, xb_l, xt1_6, xb_l, xt1_7, xb_l, xt1_8, xb_l, xt1_9, xb_l, xt1_10, xb_l, xt1_11, xb_l, xt1_12, xb_l, xt1_13, xb_l, xt1_14, xb_l, xt1_15, xb_l, xt1_16, xb_l, xt1_17, xb_l, xt1_18, xb_l, xt1_19, xb_l, xt1_20, xb_l, xc0, xb_l, xc1, xb_l, xc2, xb_l, xc3, xb_l, xc4, xb_l, xc5, xb_l]
  · unfold fX7_digest
    rewrite [ya0, Option.bind_some, yb0, Option.bind_some, ya1, Option.bind_some, yb1, Option.bind_some, ya2, Option.bind_some, yb2, Option.bind_some, yc0, Option.bind_some, yd0, Option.bind_some, yc1, Option.bind_some, yd1, Option.bind_some, yc2, Option.bind_some, yd2, Option.bind_some, if_neg rd0.dd, m_sum hN1 b0.2, Option.bind_some, m_parts hN1 b0.2, Option.bind_some, if_neg rd1.dd, m_sum hN1 b1.2, Option.bind_some, m_parts hN1 b1.2, Option.bind_some]
    rewrite [ye0_1, ye0_2, ye0_3, ye0_4, ye0_5, ye0_6, ye0_7, ye0_8, ye0_9, ye0_10, ye0_11, ye0_12, ye0_13, ye0_14, ye0_15, ye0_16, ye0_17, ye0_18, ye0_19, ye0_20, ye1_1, ye1_2, ye1_3, ye1_4, ye1_5, ye1_6, ye1_7, ye1_8, ye1_9, ye1_10, ye1_11, ye1_12, ye1_13, ye1_14, ye1_15, ye1_16, ye1_17, ye1_18, ye1_19, ye1_20, yt0, yt1, yt2, yt3, yt4, yt5]
    repeat rewrite [c31]
    rfl
