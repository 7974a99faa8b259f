theorem k_X12_refused {G : mm_G} {d : Nat} {Q : Option Value → mm_M → Prop} {M : mm_M} {y : Nat} (w : Int32) (hY : mdl_ M y) (hQ : Q (some (.int (-1))) (mm_sI (mm_sI M y 1 w) y 2 (-1))) : ma_ G jX12_refused d 0 0 [.ref y, .int w] M Q := by
  refine ma_of [some (.ref y), some (.int w)] (by decide) rfl (Nat.le_of_ble_eq_true rfl) ?_
  refine wa_aload_n dX12_refused_0 rfl rfl ?_
  refine wa_iload_n dX12_refused_1 rfl ?_
  refine wa_put (q := (RX12, TX12, 50)) (ci := 12) (k := 1) dX12_refused_2 rfl (by decide) wf_X12_126 rfl hY.1 rfl ?_
  refine wa_aload_n dX12_refused_5 rfl rfl ?_
  refine wa_iconst (v := -1) dX12_refused_6 (by decide) ?_
  refine wa_put (q := (RX12, TX12, 50)) (ci := 12) (k := 2) dX12_refused_7 rfl (by decide) wf_X12_9 rfl hY.1 rfl ?_
  refine wa_iconst (v := -1) dX12_refused_10 (by decide) ?_
  exact wa_iret dX12_refused_11 rfl (hQ)

theorem k_X12_done {G : mm_G} {d : Nat} {Q : Option Value → mm_M → Prop} {M : mm_M} {y : Nat} (v : Int32) (hY : mdl_ M y) (hQ : Q (some (.int v)) (mm_sI (mm_sI M y 1 0) y 2 (-1))) : ma_ G jX12_done d 0 0 [.ref y, .int v] M Q := by
  refine ma_of [some (.ref y), some (.int v)] (by decide) rfl (Nat.le_of_ble_eq_true rfl) ?_
  refine wa_aload_n dX12_done_0 rfl rfl ?_
  refine wa_iconst (v := 0) dX12_done_1 (by decide) ?_
  refine wa_put (q := (RX12, TX12, 50)) (ci := 12) (k := 1) dX12_done_2 rfl (by decide) wf_X12_126 rfl hY.1 rfl ?_
  refine wa_aload_n dX12_done_5 rfl rfl ?_
  refine wa_iconst (v := -1) dX12_done_6 (by decide) ?_
  refine wa_put (q := (RX12, TX12, 50)) (ci := 12) (k := 2) dX12_done_7 rfl (by decide) wf_X12_9 rfl hY.1 rfl ?_
  refine wa_iload_n dX12_done_10 rfl ?_
  exact wa_iret dX12_done_11 rfl (hQ)

theorem k_X12_isPort {G : mm_G} {d : Nat} {Q : Option Value → mm_M → Prop} {M : mm_M} {y : Nat} (p : Int32) (hY : mdl_ M y) (h1 : ¬ p < 0 → ¬ mm_I M y 26 ≤ p → Q (some (.int 1)) M) (h0 : p < 0 ∨ mm_I M y 26 ≤ p → Q (some (.int 0)) M) : ma_ G jX12_isPort d 0 0 [.ref y, .int p] M Q := by
  refine ma_of [some (.ref y), some (.int p)] (by decide) rfl (Nat.le_of_ble_eq_true rfl) ?_
  refine wa_iload_n dX12_isPort_0 rfl ?_
  refine wa_if_lt (tgt := 16) dX12_isPort_1 (by decide) (fun hT1 => ?_) (fun hF1 => ?_)
  · refine wa_iconst (v := 0) dX12_isPort_16 (by decide) ?_
    exact wa_zret dX12_isPort_17 rfl rfl (h0 (by first | exact Or.inl (by assumption) | exact Or.inr (by assumption)))
  · refine wa_iload_n dX12_isPort_4 rfl ?_
    refine wa_aload_n dX12_isPort_5 rfl rfl ?_
    refine wa_getI (q := (RX12, TX12, 50)) (ci := 12) (k := 26) dX12_isPort_6 rfl (by decide) wf_X12_236 hY.1 rfl ?_
    refine wa_icmp_ge (tgt := 16) dX12_isPort_9 (by decide) (fun hT9 => ?_) (fun hF9 => ?_)
    · refine wa_iconst (v := 0) dX12_isPort_16 (by decide) ?_
      exact wa_zret dX12_isPort_17 rfl rfl (h0 (by first | exact Or.inl (by assumption) | exact Or.inr (by assumption)))
    · refine wa_iconst (v := 1) dX12_isPort_12 (by decide) ?_
      refine wa_goto (tgt := 17) dX12_isPort_13 (by decide) ?_
      exact wa_zret dX12_isPort_17 rfl rfl (h1 (by assumption) (by assumption))

theorem k_X12_isTariff {G : mm_G} {d : Nat} {Q : Option Value → mm_M → Prop} {M : mm_M} {y : Nat} (p : Int32) (hY : mdl_ M y) (h1 : ¬ p < 0 → ¬ mm_I M y 14 ≤ p → Q (some (.int 1)) M) (h0 : p < 0 ∨ mm_I M y 14 ≤ p → Q (some (.int 0)) M) : ma_ G jX12_isTariff d 0 0 [.ref y, .int p] M Q := by
  refine ma_of [some (.ref y), some (.int p)] (by decide) rfl (Nat.le_of_ble_eq_true rfl) ?_
  refine wa_iload_n dX12_isTariff_0 rfl ?_
  refine wa_if_lt (tgt := 16) dX12_isTariff_1 (by decide) (fun hT1 => ?_) (fun hF1 => ?_)
  · refine wa_iconst (v := 0) dX12_isTariff_16 (by decide) ?_
    exact wa_zret dX12_isTariff_17 rfl rfl (h0 (by first | exact Or.inl (by assumption) | exact Or.inr (by assumption)))
  · refine wa_iload_n dX12_isTariff_4 rfl ?_
    refine wa_aload_n dX12_isTariff_5 rfl rfl ?_
    refine wa_getI (q := (RX12, TX12, 50)) (ci := 12) (k := 14) dX12_isTariff_6 rfl (by decide) wf_X12_201 hY.1 rfl ?_
    refine wa_icmp_ge (tgt := 16) dX12_isTariff_9 (by decide) (fun hT9 => ?_) (fun hF9 => ?_)
    · refine wa_iconst (v := 0) dX12_isTariff_16 (by decide) ?_
      exact wa_zret dX12_isTariff_17 rfl rfl (h0 (by first | exact Or.inl (by assumption) | exact Or.inr (by assumption)))
    · refine wa_iconst (v := 1) dX12_isTariff_12 (by decide) ?_
      refine wa_goto (tgt := 17) dX12_isTariff_13 (by decide) ?_
      exact wa_zret dX12_isTariff_17 rfl rfl (h1 (by assumption) (by assumption))

theorem k_X12_fault {G : mm_G} {d : Nat} {Q : Option Value → mm_M → Prop} {M : mm_M} {y : Nat} (hY : mdl_ M y) (hQ : Q (some (.int (mm_I (mm_sI M y 0 0) y 3))) (mm_sI M y 0 0)) : ma_ G jX12_fault d 0 0 [.ref y] M Q := by
  refine ma_of [some (.ref y)] (by decide) rfl (Nat.le_of_ble_eq_true rfl) ?_
  refine wa_aload_n dX12_fault_0 rfl rfl ?_
  refine wa_iconst (v := 0) dX12_fault_1 (by decide) ?_
  refine wa_put (q := (RX12, TX12, 50)) (ci := 12) (k := 0) dX12_fault_2 rfl (by decide) wf_X12_123 rfl hY.1 rfl ?_
  refine wa_aload_n dX12_fault_5 rfl rfl ?_
  refine wa_getI (q := (RX12, TX12, 50)) (ci := 12) (k := 3) dX12_fault_6 rfl (by decide) wf_X12_253 hY.1 rfl ?_
  exact wa_iret dX12_fault_9 rfl (hQ)

theorem k_X12_where {G : mm_G} {d : Nat} {Q : Option Value → mm_M → Prop} {M : mm_M} {y : Nat} (hY : mdl_ M y) (hQ : Q (some (.int (mm_I (mm_sI M y 0 0) y 2))) (mm_sI M y 0 0)) : ma_ G jX12_where d 0 0 [.ref y] M Q := by
  refine ma_of [some (.ref y)] (by decide) rfl (Nat.le_of_ble_eq_true rfl) ?_
  refine wa_aload_n dX12_where_0 rfl rfl ?_
  refine wa_iconst (v := 0) dX12_where_1 (by decide) ?_
  refine wa_put (q := (RX12, TX12, 50)) (ci := 12) (k := 0) dX12_where_2 rfl (by decide) wf_X12_123 rfl hY.1 rfl ?_
  refine wa_aload_n dX12_where_5 rfl rfl ?_
  refine wa_getI (q := (RX12, TX12, 50)) (ci := 12) (k := 2) dX12_where_6 rfl (by decide) wf_X12_9 hY.1 rfl ?_
  exact wa_iret dX12_where_9 rfl (hQ)

theorem k_X12_trouble {G : mm_G} {d : Nat} {Q : Option Value → mm_M → Prop} {M : mm_M} {y : Nat} (hY : mdl_ M y) (hQ : Q (some (.int (mm_I (mm_sI M y 0 0) y 1))) (mm_sI M y 0 0)) : ma_ G jX12_trouble d 0 0 [.ref y] M Q := by
  refine ma_of [some (.ref y)] (by decide) rfl (Nat.le_of_ble_eq_true rfl) ?_
  refine wa_aload_n dX12_trouble_0 rfl rfl ?_
  refine wa_iconst (v := 0) dX12_trouble_1 (by decide) ?_
  refine wa_put (q := (RX12, TX12, 50)) (ci := 12) (k := 0) dX12_trouble_2 rfl (by decide) wf_X12_123 rfl hY.1 rfl ?_
  refine wa_aload_n dX12_trouble_5 rfl rfl ?_
  refine wa_getI (q := (RX12, TX12, 50)) (ci := 12) (k := 1) dX12_trouble_6 rfl (by decide) wf_X12_126 hY.1 rfl ?_
  exact wa_iret dX12_trouble_9 rfl (hQ)

theorem k_X12_in {G : mm_G} {d : Nat} {Q : Option Value → mm_M → Prop} {M : mm_M} (v : Int32) (lo : Int32) (hi : Int32) (h1 : lo ≤ v → v ≤ hi → Q (some (.int 1)) M) (h0 : ¬ (lo ≤ v ∧ v ≤ hi) → Q (some (.int 0)) M) : ma_ G jX12_in d 0 0 [.int v, .int lo, .int hi] M Q := by
  refine ma_of [some (.int v), some (.int lo), some (.int hi)] (by decide) rfl (Nat.le_of_ble_eq_true rfl) ?_
  refine wa_iload_n dX12_in_0 rfl ?_
  refine wa_iload_n dX12_in_1 rfl ?_
  refine wa_icmp_lt (tgt := 14) dX12_in_2 (by decide) (fun hT2 => ?_) (fun hF2 => ?_)
  · refine wa_iconst (v := 0) dX12_in_14 (by decide) ?_
    exact wa_zret dX12_in_15 rfl rfl (h0 (fun q => by first | exact absurd q.1 (Int32.not_le.mpr (by assumption)) | exact absurd q.2 (Int32.not_le.mpr (by assumption))))
  · refine wa_iload_n dX12_in_5 rfl ?_
    refine wa_iload_n dX12_in_6 rfl ?_
    refine wa_icmp_gt (tgt := 14) dX12_in_7 (by decide) (fun hT7 => ?_) (fun hF7 => ?_)
    · refine wa_iconst (v := 0) dX12_in_14 (by decide) ?_
      exact wa_zret dX12_in_15 rfl rfl (h0 (fun q => by first | exact absurd q.1 (Int32.not_le.mpr (by assumption)) | exact absurd q.2 (Int32.not_le.mpr (by assumption))))
    · refine wa_iconst (v := 1) dX12_in_10 (by decide) ?_
      refine wa_goto (tgt := 15) dX12_in_11 (by decide) ?_
      exact wa_zret dX12_in_15 rfl rfl (h1 (Int32.not_lt.mp (by assumption)) (Int32.not_lt.mp (by assumption)))
