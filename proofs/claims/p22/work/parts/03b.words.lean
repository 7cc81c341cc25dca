theorem uw_X4 : ∀ w ∈ u_ws RX4 TX4 1, w ∈ TB := by
  have h : ∀ w ∈ u_ws RX4 TX4 1, decide (w ∈ tables_1) = true ∧ goodWord w = true := by decide +kernel
  exact fun w hw => TB_in (List.mem_append_right _ (of_decide_eq_true (h w hw).1)) (h w hw).2
theorem uw_X3 : ∀ w ∈ u_ws RX3 TX3 1, w ∈ TB := by
  have h : ∀ w ∈ u_ws RX3 TX3 1, decide (w ∈ tables_1) = true ∧ goodWord w = true := by decide +kernel
  exact fun w hw => TB_in (List.mem_append_right _ (of_decide_eq_true (h w hw).1)) (h w hw).2
theorem uw_X1 : ∀ w ∈ u_ws RX1 TX1 3, w ∈ TB := by
  have h : ∀ w ∈ u_ws RX1 TX1 3, decide (w ∈ tables_1) = true ∧ goodWord w = true := by decide +kernel
  exact fun w hw => TB_in (List.mem_append_right _ (of_decide_eq_true (h w hw).1)) (h w hw).2
theorem uw_X0 : ∀ w ∈ u_ws RX0 TX0 6, w ∈ TB := by
  have h : ∀ w ∈ u_ws RX0 TX0 6, decide (w ∈ tables_1) = true ∧ goodWord w = true := by decide +kernel
  exact fun w hw => TB_in (List.mem_append_right _ (of_decide_eq_true (h w hw).1)) (h w hw).2
theorem uw_X2 : ∀ w ∈ u_ws RX2 TX2 2, w ∈ TB := by
  have h : ∀ w ∈ u_ws RX2 TX2 2, decide (w ∈ tables_1) = true ∧ goodWord w = true := by decide +kernel
  exact fun w hw => TB_in (List.mem_append_right _ (of_decide_eq_true (h w hw).1)) (h w hw).2
theorem uw_X5 : ∀ w ∈ u_ws RX5 TX5 7, w ∈ TB := by
  have h : ∀ w ∈ u_ws RX5 TX5 7, decide (w ∈ tables_1) = true ∧ goodWord w = true := by decide +kernel
  exact fun w hw => TB_in (List.mem_append_right _ (of_decide_eq_true (h w hw).1)) (h w hw).2
theorem uw_X7 : ∀ w ∈ u_ws RX7 TX7 6, w ∈ TB := by
  have h : ∀ w ∈ u_ws RX7 TX7 6, decide (w ∈ tables_1) = true ∧ goodWord w = true := by decide +kernel
  exact fun w hw => TB_in (List.mem_append_right _ (of_decide_eq_true (h w hw).1)) (h w hw).2
