/-! the desk -/
def dsk0_ (M : mm_M) (y : Nat) : Prop := mm_sh M y = some (.inl 10) ∧ mm_R M y 0 = some (y + 1) ∧ mm_sh M (y + 1) = some (.inr (6, 8)) ∧ mm_R M y 1 = some (y + 2) ∧ mm_sh M (y + 2) = some (.inr (7, 30)) ∧ mm_R M y 2 = some (y + 3) ∧ mm_sh M (y + 3) = some (.inr (5, 200)) ∧ mm_R M y 3 = some (y + 4) ∧ mm_sh M (y + 4) = some (.inl 5) ∧ mm_R M y 4 = some (y + 6) ∧ mm_sh M (y + 6) = some (.inl 9) ∧ mm_R M y 5 = some (y + 10) ∧ mm_sh M (y + 10) = some (.inl 4) ∧ mm_R M y 6 = some (y + 11) ∧ mm_sh M (y + 11) = some (.inl 0)
def dsk_ (M : mm_M) (x : Nat) : Prop := dsk0_ M x ∧ tap_ M (x + 4) ∧ tok_ M (x + 6) ∧ mm_R M (x + 10) 2 = some (x + 6) ∧ mm_R M (x + 11) 0 = some (x + 12) ∧ mm_sh M (x + 12) = some (.inr (0, 5))
theorem dsk_r0 {M : mm_M} {y : Nat} (h : dsk_ M y) : va_rf (mm_R M y 0) = .ref (y + 1) := by rw [h.1.2.1]; rfl
theorem dsk_s0 {M : mm_M} {y : Nat} (h : dsk_ M y) : mm_sh M (y + 1) = some (.inr (6, 8)) := h.1.2.2.1
theorem dsk_r1 {M : mm_M} {y : Nat} (h : dsk_ M y) : va_rf (mm_R M y 1) = .ref (y + 2) := by rw [h.1.2.2.2.1]; rfl
theorem dsk_s1 {M : mm_M} {y : Nat} (h : dsk_ M y) : mm_sh M (y + 2) = some (.inr (7, 30)) := h.1.2.2.2.2.1
theorem dsk_r2 {M : mm_M} {y : Nat} (h : dsk_ M y) : va_rf (mm_R M y 2) = .ref (y + 3) := by rw [h.1.2.2.2.2.2.1]; rfl
theorem dsk_s2 {M : mm_M} {y : Nat} (h : dsk_ M y) : mm_sh M (y + 3) = some (.inr (5, 200)) := h.1.2.2.2.2.2.2.1
theorem dsk_r3 {M : mm_M} {y : Nat} (h : dsk_ M y) : va_rf (mm_R M y 3) = .ref (y + 4) := by rw [h.1.2.2.2.2.2.2.2.1]; rfl
theorem dsk_s3 {M : mm_M} {y : Nat} (h : dsk_ M y) : mm_sh M (y + 4) = some (.inl 5) := h.1.2.2.2.2.2.2.2.2.1
theorem dsk_r4 {M : mm_M} {y : Nat} (h : dsk_ M y) : va_rf (mm_R M y 4) = .ref (y + 6) := by rw [h.1.2.2.2.2.2.2.2.2.2.1]; rfl
theorem dsk_s4 {M : mm_M} {y : Nat} (h : dsk_ M y) : mm_sh M (y + 6) = some (.inl 9) := h.1.2.2.2.2.2.2.2.2.2.2.1
theorem dsk_r5 {M : mm_M} {y : Nat} (h : dsk_ M y) : va_rf (mm_R M y 5) = .ref (y + 10) := by rw [h.1.2.2.2.2.2.2.2.2.2.2.2.1]; rfl
theorem dsk_s5 {M : mm_M} {y : Nat} (h : dsk_ M y) : mm_sh M (y + 10) = some (.inl 4) := h.1.2.2.2.2.2.2.2.2.2.2.2.2.1
theorem dsk_r6 {M : mm_M} {y : Nat} (h : dsk_ M y) : va_rf (mm_R M y 6) = .ref (y + 11) := by rw [h.1.2.2.2.2.2.2.2.2.2.2.2.2.2.1]; rfl
theorem dsk_s6 {M : mm_M} {y : Nat} (h : dsk_ M y) : mm_sh M (y + 11) = some (.inl 0) := h.1.2.2.2.2.2.2.2.2.2.2.2.2.2.2
def dP_ (M : mm_M) (x P T : Nat) (pa : Nat → Nat) : Prop := mm_I M x 7 = nI P ∧ P ≤ 8 ∧ T ≤ 30 ∧ ∀ q, q < P → mm_R M (x + 1) q = some (pa q) ∧ prt_ M (pa q) ∧ mm_I M (pa q) 5 = nI T
def dT_ (M : mm_M) (x T : Nat) (ta la : Nat → Nat) : Prop := mm_I M x 8 = nI T ∧ T ≤ 30 ∧ ∀ t, t < T → mm_R M (x + 2) t = some (ta t) ∧ trw_ M (ta t) (la t)
def dN_ (M : mm_M) (x N : Nat) (pp tk : Nat → Nat) : Prop := mm_I M x 9 = nI N ∧ N ≤ 200 ∧ ∀ i, i < N → mm_R M (x + 3) i = some (pp i) ∧ mm_sh M (pp i) = some (.inl 2) ∧ mm_R M (pp i) 8 = some (tk i) ∧ mm_sh M (tk i) = some (.inr (0, 5))

theorem k_X10_refuse {G : mm_G} {d : Nat} {Q : Option Value → mm_M → Prop} {M : mm_M} {x : Nat} (w : Int32) (hx : dsk_ M x) (hQ : Q (some (.int (-1))) (mm_sI M x 11 w)) : ma_ G jX10_refuse d 0 0 [.ref x, .int w] M Q := by
  refine ma_of [some (.ref x), some (.int w)] (by decide) rfl (Nat.le_of_ble_eq_true rfl) ?_
  refine wa_aload_n dX10_refuse_0 rfl rfl ?_
  refine wa_iload_n dX10_refuse_1 rfl ?_
  refine wa_put (q := (RX10, TX10, 13)) (ci := 10) (k := 11) dX10_refuse_2 rfl (by decide) wf_X10_70 rfl hx.1.1 rfl ?_
  refine wa_iconst (v := -1) dX10_refuse_5 (by decide) ?_
  exact wa_iret dX10_refuse_6 rfl (hQ)

theorem k_X10_accept {G : mm_G} {d : Nat} {Q : Option Value → mm_M → Prop} {M : mm_M} {x : Nat} (v : Int32) (hx : dsk_ M x) (hQ : Q (some (.int v)) (mm_sI M x 11 0)) : ma_ G jX10_accept d 0 0 [.ref x, .int v] M Q := by
  refine ma_of [some (.ref x), some (.int v)] (by decide) rfl (Nat.le_of_ble_eq_true rfl) ?_
  refine wa_aload_n dX10_accept_0 rfl rfl ?_
  refine wa_iconst (v := 0) dX10_accept_1 (by decide) ?_
  refine wa_put (q := (RX10, TX10, 13)) (ci := 10) (k := 11) dX10_accept_2 rfl (by decide) wf_X10_70 rfl hx.1.1 rfl ?_
  refine wa_iload_n dX10_accept_5 rfl ?_
  exact wa_iret dX10_accept_6 rfl (hQ)

theorem k_X10_portAt {G : mm_G} {d : Nat} {Q : Option Value → mm_M → Prop} {M : mm_M} {x : Nat} (k : Int32) (P T : Nat) (pa : Nat → Nat) (hx : dsk_ M x) (hP : dP_ M x P T pa) (h1 : ∀ q : Nat, k = nI q → q < P → Q (some (.ref (pa q))) M) (h0 : k < 0 ∨ nI P ≤ k → Q (some .null) M) : ma_ G jX10_portAt d 0 0 [.ref x, .int k] M Q := by
  refine ma_of [some (.ref x), some (.int k)] (by decide) rfl (Nat.le_of_ble_eq_true rfl) ?_
  refine wa_iload_n dX10_portAt_0 rfl ?_
  refine wa_if_lt (tgt := 30) dX10_portAt_1 (by decide) (fun hT1 => ?_) (fun hF1 => ?_)
  · refine wa_null dX10_portAt_30 ?_
    exact wa_aret dX10_portAt_31 rfl (Or.inl ⟨_, rfl⟩) rfl (by first | exact h1 q rfl hq | exact h0 (Or.inl (by assumption)) | exact h0 (Or.inr (by assumption)))
  · refine wa_iload_n dX10_portAt_4 rfl ?_
    refine wa_aload_n dX10_portAt_5 rfl rfl ?_
    refine wa_getI (q := (RX10, TX10, 13)) (ci := 10) (k := 7) dX10_portAt_6 rfl (by decide) wf_X10_57 hx.1.1 rfl ?_
    rw [hP.1]
    refine wa_icmp_ge (tgt := 30) dX10_portAt_9 (by decide) (fun hT9 => ?_) (fun hF9 => ?_)
    · refine wa_null dX10_portAt_30 ?_
      exact wa_aret dX10_portAt_31 rfl (Or.inl ⟨_, rfl⟩) rfl (by first | exact h1 q rfl hq | exact h0 (Or.inl (by assumption)) | exact h0 (Or.inr (by assumption)))
    · have hn9 := hP.2.1
      obtain ⟨q, hq, rfl⟩ := ix_of hF1 hF9 (by omega)
      refine wa_iload_n dX10_portAt_12 rfl ?_
      refine wa_aload_n dX10_portAt_13 rfl rfl ?_
      refine wa_getR (q := (RX10, TX10, 13)) (ci := 10) (k := 0) dX10_portAt_14 rfl (by decide) wf_X10_11 hx.1.1 rfl (dsk_r0 hx) ?_
      refine wa_alen dX10_portAt_17 (dsk_s0 hx) ?_
      refine wa_icmp_ge (tgt := 30) dX10_portAt_18 (by decide) (fun hT18 => absurd hT18 (nI_ge (b := 8) (by omega) (by decide))) (fun hF18 => ?_)
      refine wa_aload_n dX10_portAt_21 rfl rfl ?_
      refine wa_getR (q := (RX10, TX10, 13)) (ci := 10) (k := 0) dX10_portAt_22 rfl (by decide) wf_X10_11 hx.1.1 rfl (dsk_r0 hx) ?_
      refine wa_iload_n dX10_portAt_25 rfl ?_
      refine wa_aaldN dX10_portAt_26 (dsk_s0 hx) (by decide) (by decide) (by omega) (by decide) (rf_some (hP.2.2.2 q hq).1) ?_
      refine wa_goto (tgt := 31) dX10_portAt_27 (by decide) ?_
      exact wa_aret dX10_portAt_31 rfl (Or.inl ⟨_, rfl⟩) rfl (by first | exact h1 q rfl hq | exact h0 (Or.inl (by assumption)) | exact h0 (Or.inr (by assumption)))

theorem k_X10_tariffAt {G : mm_G} {d : Nat} {Q : Option Value → mm_M → Prop} {M : mm_M} {x : Nat} (k : Int32) (T : Nat) (ta la : Nat → Nat) (hx : dsk_ M x) (hT : dT_ M x T ta la) (h1 : ∀ q : Nat, k = nI q → q < T → Q (some (.ref (ta q))) M) (h0 : k < 0 ∨ nI T ≤ k → Q (some .null) M) : ma_ G jX10_tariffAt d 0 0 [.ref x, .int k] M Q := by
  refine ma_of [some (.ref x), some (.int k)] (by decide) rfl (Nat.le_of_ble_eq_true rfl) ?_
  refine wa_iload_n dX10_tariffAt_0 rfl ?_
  refine wa_if_lt (tgt := 30) dX10_tariffAt_1 (by decide) (fun hT1 => ?_) (fun hF1 => ?_)
  · refine wa_null dX10_tariffAt_30 ?_
    exact wa_aret dX10_tariffAt_31 rfl (Or.inl ⟨_, rfl⟩) rfl (by first | exact h1 q rfl hq | exact h0 (Or.inl (by assumption)) | exact h0 (Or.inr (by assumption)))
  · refine wa_iload_n dX10_tariffAt_4 rfl ?_
    refine wa_aload_n dX10_tariffAt_5 rfl rfl ?_
    refine wa_getI (q := (RX10, TX10, 13)) (ci := 10) (k := 8) dX10_tariffAt_6 rfl (by decide) wf_X10_61 hx.1.1 rfl ?_
    rw [hT.1]
    refine wa_icmp_ge (tgt := 30) dX10_tariffAt_9 (by decide) (fun hT9 => ?_) (fun hF9 => ?_)
    · refine wa_null dX10_tariffAt_30 ?_
      exact wa_aret dX10_tariffAt_31 rfl (Or.inl ⟨_, rfl⟩) rfl (by first | exact h1 q rfl hq | exact h0 (Or.inl (by assumption)) | exact h0 (Or.inr (by assumption)))
    · have hn9 := hT.2.1
      obtain ⟨q, hq, rfl⟩ := ix_of hF1 hF9 (by omega)
      refine wa_iload_n dX10_tariffAt_12 rfl ?_
      refine wa_aload_n dX10_tariffAt_13 rfl rfl ?_
      refine wa_getR (q := (RX10, TX10, 13)) (ci := 10) (k := 1) dX10_tariffAt_14 rfl (by decide) wf_X10_17 hx.1.1 rfl (dsk_r1 hx) ?_
      refine wa_alen dX10_tariffAt_17 (dsk_s1 hx) ?_
      refine wa_icmp_ge (tgt := 30) dX10_tariffAt_18 (by decide) (fun hT18 => absurd hT18 (nI_ge (b := 30) (by omega) (by decide))) (fun hF18 => ?_)
      refine wa_aload_n dX10_tariffAt_21 rfl rfl ?_
      refine wa_getR (q := (RX10, TX10, 13)) (ci := 10) (k := 1) dX10_tariffAt_22 rfl (by decide) wf_X10_17 hx.1.1 rfl (dsk_r1 hx) ?_
      refine wa_iload_n dX10_tariffAt_25 rfl ?_
      refine wa_aaldN dX10_tariffAt_26 (dsk_s1 hx) (by decide) (by decide) (by omega) (by decide) (rf_some (hT.2.2 q hq).1) ?_
      refine wa_goto (tgt := 31) dX10_tariffAt_27 (by decide) ?_
      exact wa_aret dX10_tariffAt_31 rfl (Or.inl ⟨_, rfl⟩) rfl (by first | exact h1 q rfl hq | exact h0 (Or.inl (by assumption)) | exact h0 (Or.inr (by assumption)))

theorem k_X10_paperAt {G : mm_G} {d : Nat} {Q : Option Value → mm_M → Prop} {M : mm_M} {x : Nat} (k : Int32) (N : Nat) (pp tk : Nat → Nat) (hx : dsk_ M x) (hN : dN_ M x N pp tk) (h1 : ∀ q : Nat, k = nI q → q < N → Q (some (.ref (pp q))) M) (h0 : k < 0 ∨ nI N ≤ k → Q (some .null) M) : ma_ G jX10_paperAt d 0 0 [.ref x, .int k] M Q := by
  refine ma_of [some (.ref x), some (.int k)] (by decide) rfl (Nat.le_of_ble_eq_true rfl) ?_
  refine wa_iload_n dX10_paperAt_0 rfl ?_
  refine wa_if_lt (tgt := 30) dX10_paperAt_1 (by decide) (fun hT1 => ?_) (fun hF1 => ?_)
  · refine wa_null dX10_paperAt_30 ?_
    exact wa_aret dX10_paperAt_31 rfl (Or.inl ⟨_, rfl⟩) rfl (by first | exact h1 q rfl hq | exact h0 (Or.inl (by assumption)) | exact h0 (Or.inr (by assumption)))
  · refine wa_iload_n dX10_paperAt_4 rfl ?_
    refine wa_aload_n dX10_paperAt_5 rfl rfl ?_
    refine wa_getI (q := (RX10, TX10, 13)) (ci := 10) (k := 9) dX10_paperAt_6 rfl (by decide) wf_X10_64 hx.1.1 rfl ?_
    rw [hN.1]
    refine wa_icmp_ge (tgt := 30) dX10_paperAt_9 (by decide) (fun hT9 => ?_) (fun hF9 => ?_)
    · refine wa_null dX10_paperAt_30 ?_
      exact wa_aret dX10_paperAt_31 rfl (Or.inl ⟨_, rfl⟩) rfl (by first | exact h1 q rfl hq | exact h0 (Or.inl (by assumption)) | exact h0 (Or.inr (by assumption)))
    · have hn9 := hN.2.1
      obtain ⟨q, hq, rfl⟩ := ix_of hF1 hF9 (by omega)
      refine wa_iload_n dX10_paperAt_12 rfl ?_
      refine wa_aload_n dX10_paperAt_13 rfl rfl ?_
      refine wa_getR (q := (RX10, TX10, 13)) (ci := 10) (k := 2) dX10_paperAt_14 rfl (by decide) wf_X10_23 hx.1.1 rfl (dsk_r2 hx) ?_
      refine wa_alen dX10_paperAt_17 (dsk_s2 hx) ?_
      refine wa_icmp_ge (tgt := 30) dX10_paperAt_18 (by decide) (fun hT18 => absurd hT18 (nI_ge (b := 200) (by omega) (by decide))) (fun hF18 => ?_)
      refine wa_aload_n dX10_paperAt_21 rfl rfl ?_
      refine wa_getR (q := (RX10, TX10, 13)) (ci := 10) (k := 2) dX10_paperAt_22 rfl (by decide) wf_X10_23 hx.1.1 rfl (dsk_r2 hx) ?_
      refine wa_iload_n dX10_paperAt_25 rfl ?_
      refine wa_aaldN dX10_paperAt_26 (dsk_s2 hx) (by decide) (by decide) (by omega) (by decide) (rf_some (hN.2.2 q hq).1) ?_
      refine wa_goto (tgt := 31) dX10_paperAt_27 (by decide) ?_
      exact wa_aret dX10_paperAt_31 rfl (Or.inl ⟨_, rfl⟩) rfl (by first | exact h1 q rfl hq | exact h0 (Or.inl (by assumption)) | exact h0 (Or.inr (by assumption)))

theorem k_X10_isWorth {G : mm_G} {d : Nat} {Q : Option Value → mm_M → Prop} {M : mm_M} (w : Int32) (w0 : Nat) (hG0 : G.2.2.2.1 0 = .ref w0) (hw0 : mm_sh M w0 = some (.inr (10, 5))) (h1 : ∀ r : Nat, w = nI r → r < 5 → Q (some (.int 1)) M) (h0 : w < 0 ∨ nI 5 ≤ w → Q (some (.int 0)) M) : ma_ G jX10_isWorth d 0 0 [.int w] M Q := by
  refine ma_of [some (.int w)] (by decide) rfl (Nat.le_of_ble_eq_true rfl) ?_
  refine wa_iload_n dX10_isWorth_0 rfl ?_
  refine wa_if_lt (tgt := 16) dX10_isWorth_1 (by decide) (fun hT1 => ?_) (fun hF1 => ?_)
  · refine wa_iconst (v := 0) dX10_isWorth_16 (by decide) ?_
    exact wa_zret dX10_isWorth_17 rfl rfl (h0 (by first | exact Or.inl (by assumption) | exact Or.inr (by assumption)))
  · refine wa_iload_n dX10_isWorth_4 rfl ?_
    refine wa_gets (k := 0) dX10_isWorth_5 rfl wz_X10_244 hG0 ?_
    refine wa_alen dX10_isWorth_8 hw0 ?_
    refine wa_icmp_ge (tgt := 16) dX10_isWorth_9 (by decide) (fun hT9 => ?_) (fun hF9 => ?_)
    · refine wa_iconst (v := 0) dX10_isWorth_16 (by decide) ?_
      exact wa_zret dX10_isWorth_17 rfl rfl (h0 (by first | exact Or.inl (by assumption) | exact Or.inr (by assumption)))
    · obtain ⟨r, hr, rfl⟩ := ix_of (n := 5) hF1 hF9 (by decide)
      refine wa_iconst (v := 1) dX10_isWorth_12 (by decide) ?_
      refine wa_goto (tgt := 17) dX10_isWorth_13 (by decide) ?_
      exact wa_zret dX10_isWorth_17 rfl rfl (h1 r rfl hr)

theorem k_X10_isPaper {G : mm_G} {d : Nat} {Q : Option Value → mm_M → Prop} {M : mm_M} (k : Int32) (v : Int32) (s : Int32) (h1 : 0 ≤ k → k ≤ 9 → 0 ≤ v → v ≤ 9999 → 1 ≤ s → s ≤ 99 → Q (some (.int 1)) M) (h0 : ¬ (0 ≤ k ∧ k ≤ 9 ∧ 0 ≤ v ∧ v ≤ 9999 ∧ 1 ≤ s ∧ s ≤ 99) → Q (some (.int 0)) M) : ma_ G jX10_isPaper d 0 0 [.int k, .int v, .int s] M Q := by
  refine ma_of [some (.int k), some (.int v), some (.int s)] (by decide) rfl (Nat.le_of_ble_eq_true rfl) ?_
  refine wa_iload_n dX10_isPaper_0 rfl ?_
  refine wa_if_lt (tgt := 36) dX10_isPaper_1 (by decide) (fun hT1 => ?_) (fun hF1 => ?_)
  · refine wa_iconst (v := 0) dX10_isPaper_36 (by decide) ?_
    exact wa_zret dX10_isPaper_37 rfl rfl (h0 (fun q => by first | exact absurd q.1 (Int32.not_le.mpr (by assumption)) | exact absurd q.2.1 (Int32.not_le.mpr (by assumption)) | exact absurd q.2.2.1 (Int32.not_le.mpr (by assumption)) | exact absurd q.2.2.2.1 (Int32.not_le.mpr (by assumption)) | exact absurd q.2.2.2.2.1 (Int32.not_le.mpr (by assumption)) | exact absurd q.2.2.2.2.2 (Int32.not_le.mpr (by assumption))))
  · refine wa_iload_n dX10_isPaper_4 rfl ?_
    refine wa_bipush (v := 9) dX10_isPaper_5 (by decide) ?_
    refine wa_icmp_gt (tgt := 36) dX10_isPaper_7 (by decide) (fun hT7 => ?_) (fun hF7 => ?_)
    · refine wa_iconst (v := 0) dX10_isPaper_36 (by decide) ?_
      exact wa_zret dX10_isPaper_37 rfl rfl (h0 (fun q => by first | exact absurd q.1 (Int32.not_le.mpr (by assumption)) | exact absurd q.2.1 (Int32.not_le.mpr (by assumption)) | exact absurd q.2.2.1 (Int32.not_le.mpr (by assumption)) | exact absurd q.2.2.2.1 (Int32.not_le.mpr (by assumption)) | exact absurd q.2.2.2.2.1 (Int32.not_le.mpr (by assumption)) | exact absurd q.2.2.2.2.2 (Int32.not_le.mpr (by assumption))))
    · refine wa_iload_n dX10_isPaper_10 rfl ?_
      refine wa_if_lt (tgt := 36) dX10_isPaper_11 (by decide) (fun hT11 => ?_) (fun hF11 => ?_)
      · refine wa_iconst (v := 0) dX10_isPaper_36 (by decide) ?_
        exact wa_zret dX10_isPaper_37 rfl rfl (h0 (fun q => by first | exact absurd q.1 (Int32.not_le.mpr (by assumption)) | exact absurd q.2.1 (Int32.not_le.mpr (by assumption)) | exact absurd q.2.2.1 (Int32.not_le.mpr (by assumption)) | exact absurd q.2.2.2.1 (Int32.not_le.mpr (by assumption)) | exact absurd q.2.2.2.2.1 (Int32.not_le.mpr (by assumption)) | exact absurd q.2.2.2.2.2 (Int32.not_le.mpr (by assumption))))
      · refine wa_iload_n dX10_isPaper_14 rfl ?_
        refine wa_sipush (v := 9999) dX10_isPaper_15 (by decide) ?_
        refine wa_icmp_gt (tgt := 36) dX10_isPaper_18 (by decide) (fun hT18 => ?_) (fun hF18 => ?_)
        · refine wa_iconst (v := 0) dX10_isPaper_36 (by decide) ?_
          exact wa_zret dX10_isPaper_37 rfl rfl (h0 (fun q => by first | exact absurd q.1 (Int32.not_le.mpr (by assumption)) | exact absurd q.2.1 (Int32.not_le.mpr (by assumption)) | exact absurd q.2.2.1 (Int32.not_le.mpr (by assumption)) | exact absurd q.2.2.2.1 (Int32.not_le.mpr (by assumption)) | exact absurd q.2.2.2.2.1 (Int32.not_le.mpr (by assumption)) | exact absurd q.2.2.2.2.2 (Int32.not_le.mpr (by assumption))))
        · refine wa_iload_n dX10_isPaper_21 rfl ?_
          refine wa_iconst (v := 1) dX10_isPaper_22 (by decide) ?_
          refine wa_icmp_lt (tgt := 36) dX10_isPaper_23 (by decide) (fun hT23 => ?_) (fun hF23 => ?_)
          · refine wa_iconst (v := 0) dX10_isPaper_36 (by decide) ?_
            exact wa_zret dX10_isPaper_37 rfl rfl (h0 (fun q => by first | exact absurd q.1 (Int32.not_le.mpr (by assumption)) | exact absurd q.2.1 (Int32.not_le.mpr (by assumption)) | exact absurd q.2.2.1 (Int32.not_le.mpr (by assumption)) | exact absurd q.2.2.2.1 (Int32.not_le.mpr (by assumption)) | exact absurd q.2.2.2.2.1 (Int32.not_le.mpr (by assumption)) | exact absurd q.2.2.2.2.2 (Int32.not_le.mpr (by assumption))))
          · refine wa_iload_n dX10_isPaper_26 rfl ?_
            refine wa_bipush (v := 99) dX10_isPaper_27 (by decide) ?_
            refine wa_icmp_gt (tgt := 36) dX10_isPaper_29 (by decide) (fun hT29 => ?_) (fun hF29 => ?_)
            · refine wa_iconst (v := 0) dX10_isPaper_36 (by decide) ?_
              exact wa_zret dX10_isPaper_37 rfl rfl (h0 (fun q => by first | exact absurd q.1 (Int32.not_le.mpr (by assumption)) | exact absurd q.2.1 (Int32.not_le.mpr (by assumption)) | exact absurd q.2.2.1 (Int32.not_le.mpr (by assumption)) | exact absurd q.2.2.2.1 (Int32.not_le.mpr (by assumption)) | exact absurd q.2.2.2.2.1 (Int32.not_le.mpr (by assumption)) | exact absurd q.2.2.2.2.2 (Int32.not_le.mpr (by assumption))))
            · refine wa_iconst (v := 1) dX10_isPaper_32 (by decide) ?_
              refine wa_goto (tgt := 37) dX10_isPaper_33 (by decide) ?_
              exact wa_zret dX10_isPaper_37 rfl rfl (h1 (Int32.not_lt.mp hF1) (Int32.not_lt.mp hF7) (Int32.not_lt.mp hF11) (Int32.not_lt.mp hF18) (Int32.not_lt.mp hF23) (Int32.not_lt.mp hF29))

theorem k_X10_isPast {G : mm_G} {d : Nat} {Q : Option Value → mm_M → Prop} {M : mm_M} {x : Nat} (dd : Int32) (hx : dsk_ M x) (h1 : ¬ dd < 0 → dd ≤ mm_I M x 10 → Q (some (.int 1)) M) (h0 : dd < 0 ∨ mm_I M x 10 < dd → Q (some (.int 0)) M) : ma_ G jX10_isPast d 0 0 [.ref x, .int dd] M Q := by
  refine ma_of [some (.ref x), some (.int dd)] (by decide) rfl (Nat.le_of_ble_eq_true rfl) ?_
  refine wa_iload_n dX10_isPast_0 rfl ?_
  refine wa_if_lt (tgt := 16) dX10_isPast_1 (by decide) (fun hT1 => ?_) (fun hF1 => ?_)
  · refine wa_iconst (v := 0) dX10_isPast_16 (by decide) ?_
    exact wa_zret dX10_isPast_17 rfl rfl (h0 (by first | exact Or.inl (by assumption) | exact Or.inr (by assumption)))
  · refine wa_iload_n dX10_isPast_4 rfl ?_
    refine wa_aload_n dX10_isPast_5 rfl rfl ?_
    refine wa_getI (q := (RX10, TX10, 13)) (ci := 10) (k := 10) dX10_isPast_6 rfl (by decide) wf_X10_67 hx.1.1 rfl ?_
    refine wa_icmp_gt (tgt := 16) dX10_isPast_9 (by decide) (fun hT9 => ?_) (fun hF9 => ?_)
    · refine wa_iconst (v := 0) dX10_isPast_16 (by decide) ?_
      exact wa_zret dX10_isPast_17 rfl rfl (h0 (by first | exact Or.inl (by assumption) | exact Or.inr (by assumption)))
    · refine wa_iconst (v := 1) dX10_isPast_12 (by decide) ?_
      refine wa_goto (tgt := 17) dX10_isPast_13 (by decide) ?_
      exact wa_zret dX10_isPast_17 rfl rfl (h1 (by assumption) (Int32.not_lt.mp (by assumption)))

/-- the day on which a paper is known at home -/
def kd_ (M : mm_M) (a p : Nat) : Int32 := ab_ (mm_I M a 5) * 30 + mm_I M p 0

theorem k_X10_knownDay {G : mm_G} {d : Nat} {Q : Option Value → mm_M → Prop} {M : mm_M} {x : Nat} (a : Nat) (P T : Nat) (pa : Nat → Nat) (hx : dsk_ M x) (hP : dP_ M x P T pa) (q : Nat) (ha : mm_sh M a = some (.inl 2)) (hpq : mm_I M a 0 = nI q) (hq : q < P) (hQ : Q (some (.int (kd_ M a (pa q)))) M) : ma_ G jX10_knownDay (d + 1) 0 0 [.ref x, .ref a] M Q := by
  refine ma_of [some (.ref x), some (.ref a), none, none] (by decide) rfl (Nat.le_of_ble_eq_true rfl) ?_
  have hP8 := hP.2.1
  refine wa_aload_n dX10_knownDay_0 rfl rfl ?_
  refine wa_aload_n dX10_knownDay_1 rfl rfl ?_
  refine wa_getI (q := (RX2, TX2, 9)) (ci := 2) (k := 0) dX10_knownDay_2 rfl (by decide) wf_X10_190 ha rfl ?_
  rw [hpq]
  refine wa_callV (q := (RX10, TX10, 13)) (As := [.int (nI q)]) dX10_knownDay_5 lk_X10_119 rfl rfl hx.1.1 rfl rfl (Nat.le_of_ble_eq_true rfl) (Nat.le_of_eq (Nat.zero_add _)) (Nat.le_of_eq (Nat.zero_add _)) (k_X10_portAt (nI q) P T pa hx hP (fun q9 e9 h9 => ?_) (fun z9 => absurd z9 (by rintro (z | z) <;> first | exact nI_pos (by omega) z | exact nI_ge (by omega) (by omega) z)))
  obtain rfl : q = q9 := (nI_eq (by omega) (by omega)).mp e9
  have hprt := (hP.2.2.2 q h9).2.1
  refine wa_astore_n dX10_knownDay_8 (by decide) rfl rfl rfl ?_
  refine wa_aload_n dX10_knownDay_9 rfl rfl ?_
  refine wa_ifnonnullR (tgt := 17) dX10_knownDay_10 (by decide) ?_
  refine wa_aload_n dX10_knownDay_17 rfl rfl ?_
  refine wa_getI (q := (RX3, TX3, 8)) (ci := 3) (k := 0) dX10_knownDay_18 rfl (by decide) wf_X10_223 hprt.1 rfl ?_
  refine wa_istore_n dX10_knownDay_21 (by decide) rfl rfl ?_
  refine wa_aload_n dX10_knownDay_22 rfl rfl ?_
  refine wa_getI (q := (RX2, TX2, 9)) (ci := 2) (k := 5) dX10_knownDay_23 rfl (by decide) wf_X10_202 ha rfl ?_
  refine wa_callS (As := [.int (mm_I M a 5)]) dX10_knownDay_26 lk_X10_247 rfl rfl (Nat.le_of_ble_eq_true rfl) (Nat.le_of_eq (Nat.zero_add _)) (Nat.le_of_eq (Nat.zero_add _)) (k_X10_accountsBelow _ ?_)
  refine wa_bipush (v := 30) dX10_knownDay_29 (by decide) ?_
  refine wa_imul dX10_knownDay_31 ?_
  refine wa_iload_n dX10_knownDay_32 rfl ?_
  refine wa_iadd dX10_knownDay_33 ?_
  exact wa_iret dX10_knownDay_34 rfl (hQ)

theorem k_X10_isKnown {G : mm_G} {d : Nat} {Q : Option Value → mm_M → Prop} {M : mm_M} {x : Nat} (a : Nat) (dd : Int32) (P T : Nat) (pa : Nat → Nat) (hx : dsk_ M x) (hP : dP_ M x P T pa) (q : Nat) (ha : mm_sh M a = some (.inl 2)) (hpq : mm_I M a 0 = nI q) (hq : q < P) (h1 : kd_ M a (pa q) ≤ dd → Q (some (.int 1)) M) (h0 : dd < kd_ M a (pa q) → Q (some (.int 0)) M) : ma_ G jX10_isKnown (d + 2) 0 0 [.ref x, .ref a, .int dd] M Q := by
  refine ma_of [some (.ref x), some (.ref a), some (.int dd)] (by decide) rfl (Nat.le_of_ble_eq_true rfl) ?_
  refine wa_aload_n dX10_isKnown_0 rfl rfl ?_
  refine wa_aload_n dX10_isKnown_1 rfl rfl ?_
  refine wa_callV (q := (RX10, TX10, 13)) (As := [.ref a]) dX10_isKnown_2 lk_X10_219 rfl rfl hx.1.1 rfl rfl (Nat.le_of_ble_eq_true rfl) (Nat.le_of_eq (Nat.zero_add _)) (Nat.le_of_eq (Nat.zero_add _)) (k_X10_knownDay a P T pa hx hP q ha hpq hq ?_)
  refine wa_iload_n dX10_isKnown_5 rfl ?_
  refine wa_icmp_gt (tgt := 13) dX10_isKnown_6 (by decide) (fun hT6 => ?_) (fun hF6 => ?_)
  · refine wa_iconst (v := 0) dX10_isKnown_13 (by decide) ?_
    exact wa_zret dX10_isKnown_14 rfl rfl (h0 (by assumption))
  · refine wa_iconst (v := 1) dX10_isKnown_9 (by decide) ?_
    refine wa_goto (tgt := 14) dX10_isKnown_10 (by decide) ?_
    exact wa_zret dX10_isKnown_14 rfl rfl (h1 (Int32.not_lt.mp (by assumption)))

theorem k_X10_isKnownOf {G : mm_G} {d : Nat} {Q : Option Value → mm_M → Prop} {M : mm_M} {x : Nat} (p : Int32) (i : Nat) (dd : Int32) (P T : Nat) (pa : Nat → Nat) (hx : dsk_ M x) (hP : dP_ M x P T pa) (N : Nat) (pp tk : Nat → Nat) (hN : dN_ M x N pp tk) (pq : Nat → Nat) (hpq : ∀ i, i < N → mm_I M (pp i) 0 = nI (pq i) ∧ pq i < P) (hi : i < N) (h1 : mm_I M (pp i) 0 = p → kd_ M (pp i) (pa (pq i)) ≤ dd → Q (some (.int 1)) M) (h0 : ¬ (mm_I M (pp i) 0 = p ∧ kd_ M (pp i) (pa (pq i)) ≤ dd) → Q (some (.int 0)) M) : ma_ G jX10_isKnownOf (d + 3) 0 0 [.ref x, .int p, .int (nI i), .int dd] M Q := by
  refine ma_of [some (.ref x), some (.int p), some (.int (nI i)), some (.int dd), none] (by decide) rfl (Nat.le_of_ble_eq_true rfl) ?_
  have hN2 := hN.2.1
  refine wa_aload_n dX10_isKnownOf_0 rfl rfl ?_
  refine wa_iload_n dX10_isKnownOf_1 rfl ?_
  refine wa_callV (q := (RX10, TX10, 13)) (As := [.int (nI i)]) dX10_isKnownOf_2 lk_X10_186 rfl rfl hx.1.1 rfl rfl (Nat.le_of_ble_eq_true rfl) (Nat.le_of_eq (Nat.zero_add _)) (Nat.le_of_eq (Nat.zero_add _)) (k_X10_paperAt (nI i) N pp tk hx hN (fun q9 e9 h9 => ?_) (fun z9 => absurd z9 (by rintro (z | z) <;> first | exact nI_pos (by omega) z | exact nI_ge (by omega) (by omega) z)))
  obtain rfl : i = q9 := (nI_eq (by omega) (by omega)).mp e9
  have hai := (hN.2.2 i h9).2.1
  refine wa_astore dX10_isKnownOf_5 (by decide) rfl rfl rfl ?_
  refine wa_aload dX10_isKnownOf_7 rfl rfl ?_
  refine wa_ifnullR dX10_isKnownOf_9 ?_
  refine wa_aload dX10_isKnownOf_12 rfl rfl ?_
  refine wa_getI (q := (RX2, TX2, 9)) (ci := 2) (k := 0) dX10_isKnownOf_14 rfl (by decide) wf_X10_190 hai rfl ?_
  refine wa_iload_n dX10_isKnownOf_17 rfl ?_
  refine wa_icmp_ne (tgt := 35) dX10_isKnownOf_18 (by decide) (fun hT18 => ?_) (fun hF18 => ?_)
  · refine wa_iconst (v := 0) dX10_isKnownOf_35 (by decide) ?_
    exact wa_zret dX10_isKnownOf_36 rfl rfl (h0 (fun z => by first | exact absurd z.1 (by assumption) | exact absurd z.2 (Int32.not_le.mpr (by assumption))))
  · refine wa_aload_n dX10_isKnownOf_21 rfl rfl ?_
    refine wa_aload dX10_isKnownOf_22 rfl rfl ?_
    refine wa_iload_n dX10_isKnownOf_24 rfl ?_
    refine wa_callV (q := (RX10, TX10, 13)) (As := [.ref (pp i), .int dd]) dX10_isKnownOf_25 lk_X10_215 rfl rfl hx.1.1 rfl rfl (Nat.le_of_ble_eq_true rfl) (Nat.le_of_eq (Nat.zero_add _)) (Nat.le_of_eq (Nat.zero_add _)) (k_X10_isKnown (pp i) dd P T pa hx hP (pq i) hai (hpq i hi).1 (hpq i hi).2 (fun hE => ?_) (fun hE => ?_))
    · refine wa_if_eq (tgt := 35) dX10_isKnownOf_28 (by decide) (fun h9 => absurd h9 (by decide)) (fun _ => ?_)
      refine wa_iconst (v := 1) dX10_isKnownOf_31 (by decide) ?_
      refine wa_goto (tgt := 36) dX10_isKnownOf_32 (by decide) ?_
      exact wa_zret dX10_isKnownOf_36 rfl rfl (h1 (by assumption) hE)
    · refine wa_if_eq (tgt := 35) dX10_isKnownOf_28 (by decide) (fun _ => ?_) (fun h9 => absurd h9 (by decide))
      refine wa_iconst (v := 0) dX10_isKnownOf_35 (by decide) ?_
      exact wa_zret dX10_isKnownOf_36 rfl rfl (h0 (fun z => by first | exact absurd z.1 (by assumption) | exact absurd z.2 (Int32.not_le.mpr (by assumption))))

theorem k_X10_chargedFor {G : mm_G} {d : Nat} {Q : Option Value → mm_M → Prop} {M : mm_M} {x : Nat} (i : Nat) (N : Nat) (pp tk : Nat → Nat) (hN : dN_ M x N pp tk) (hx : dsk_ M x) (hi : i < N) (hQ : Q (some (.int (mm_I M (pp i) 6))) M) : ma_ G jX10_chargedFor (d + 1) 0 0 [.ref x, .int (nI i)] M Q := by
  refine ma_of [some (.ref x), some (.int (nI i)), none] (by decide) rfl (Nat.le_of_ble_eq_true rfl) ?_
  have hN2 := hN.2.1
  refine wa_aload_n dX10_chargedFor_0 rfl rfl ?_
  refine wa_iload_n dX10_chargedFor_1 rfl ?_
  refine wa_callV (q := (RX10, TX10, 13)) (As := [.int (nI i)]) dX10_chargedFor_2 lk_X10_186 rfl rfl hx.1.1 rfl rfl (Nat.le_of_ble_eq_true rfl) (Nat.le_of_eq (Nat.zero_add _)) (Nat.le_of_eq (Nat.zero_add _)) (k_X10_paperAt (nI i) N pp tk hx hN (fun q9 e9 h9 => ?_) (fun z9 => absurd z9 (by rintro (z | z) <;> first | exact nI_pos (by omega) z | exact nI_ge (by omega) (by omega) z)))
  obtain rfl : i = q9 := (nI_eq (by omega) (by omega)).mp e9
  have hai := (hN.2.2 i h9).2.1
  refine wa_astore_n dX10_chargedFor_5 (by decide) rfl rfl rfl ?_
  refine wa_aload_n dX10_chargedFor_6 rfl rfl ?_
  refine wa_ifnonnullR (tgt := 14) dX10_chargedFor_7 (by decide) ?_
  refine wa_aload_n dX10_chargedFor_14 rfl rfl ?_
  refine wa_getI (q := (RX2, TX2, 9)) (ci := 2) (k := 6) dX10_chargedFor_15 rfl (by decide) wf_X10_205 hai rfl ?_
  exact wa_iret dX10_chargedFor_18 rfl (hQ)

def rg_ (x : Int32) : Int32 := if x = -2 then -10000 else x
def hg_ (M : mm_M) (ta la : Nat → Nat) (a : Nat) : Nat → Int32
  | 0 => -10000
  | n + 1 => if mm_I M (ta n) 0 ≤ mm_I M a 5 then rg_ (fo_ M (la n) a 12 0) else hg_ M ta la a n

theorem k_X10_homeFee {G : mm_G} {d : Nat} {Q : Option Value → mm_M → Prop} {M : mm_M} {x : Nat} (k : Int32) (T : Nat) (ta la : Nat → Nat) (N : Nat) (pp tk : Nat → Nat) (hN : dN_ M x N pp tk) (hx : dsk_ M x) (hT : dT_ M x T ta la) (h0 : k < 0 ∨ nI N ≤ k → Q (some (.int (-10000))) M) (h1 : ∀ i : Nat, k = nI i → i < N → Q (some (.int (hg_ M ta la (pp i) T))) M) : ma_ G jX10_homeFee (d + 4) 0 0 [.ref x, .int k] M Q := by
  refine ma_of [some (.ref x), some (.int k), none, none, none, none] (by decide) rfl (Nat.le_of_ble_eq_true rfl) ?_
  have hN2 := hN.2.1
  have hT2 := hT.2.1
  have lp : ∀ i : Nat, mm_sh M (pp i) = some (.inl 2) → ∀ (n : Nat), n ≤ T → Q (some (.int (hg_ M ta la (pp i) n))) M → wa_ 0 G jX10_homeFee (d + 4) 0 0 Q 0 0 M 21 [some (.ref x), some (.int (nI i)), some (.ref (pp i)), some (.int (nI n - 1)), none, none] [] := by
    intro i hai n
    induction n with
    | zero =>
      intro hn hq
      refine wa_iload_n dX10_homeFee_21 rfl ?_
      refine wa_if_lt (tgt := 79) dX10_homeFee_22 (by decide) (fun _ => ?_) (fun h9 => absurd h9 (by decide))
      refine wa_sipush (v := -10000) dX10_homeFee_79 (by decide) ?_
      exact wa_iret dX10_homeFee_82 rfl (hq)
    | succ n ih =>
      intro hn hq
      rw [nI_pred n]
      simp only [hg_] at hq
      refine wa_iload_n dX10_homeFee_21 rfl ?_
      refine wa_if_lt (tgt := 79) dX10_homeFee_22 (by decide) (fun hT22 => absurd hT22 (nI_pos (by omega))) (fun hF22 => ?_)
      refine wa_aload_n dX10_homeFee_25 rfl rfl ?_
      refine wa_iload_n dX10_homeFee_26 rfl ?_
      refine wa_callV (q := (RX10, TX10, 13)) (As := [.int (nI n)]) dX10_homeFee_27 lk_X10_153 rfl rfl hx.1.1 rfl rfl (Nat.le_of_ble_eq_true rfl) (Nat.le_of_eq (Nat.zero_add _)) (Nat.le_of_eq (Nat.zero_add _)) (k_X10_tariffAt (nI n) T ta la hx hT (fun q9 e9 h9 => ?_) (fun z9 => absurd z9 (by rintro (z | z) <;> first | exact nI_pos (by omega) z | exact nI_ge (by omega) (by omega) z)))
      obtain rfl : n = q9 := (nI_eq (by omega) (by omega)).mp e9
      have htn := (hT.2.2 n h9).2
      refine wa_astore dX10_homeFee_30 (by decide) rfl rfl rfl ?_
      refine wa_aload dX10_homeFee_32 rfl rfl ?_
      refine wa_ifnullR dX10_homeFee_34 ?_
      refine wa_aload dX10_homeFee_37 rfl rfl ?_
      refine wa_getI (q := (RX6, TX6, 2)) (ci := 6) (k := 0) dX10_homeFee_39 rfl (by decide) wf_X10_250 htn.1 rfl ?_
      refine wa_aload_n dX10_homeFee_42 rfl rfl ?_
      refine wa_getI (q := (RX2, TX2, 9)) (ci := 2) (k := 5) dX10_homeFee_43 rfl (by decide) wf_X10_202 hai rfl ?_
      refine wa_icmp_gt (tgt := 73) dX10_homeFee_46 (by decide) (fun hT46 => ?_) (fun hF46 => ?_)
      · refine wa_iinc (v := nI n - 1) dX10_homeFee_73 rfl (ni_m1 _) (by decide) rfl rfl ?_
        refine wa_goto (tgt := 21) dX10_homeFee_76 (by decide) ?_
        refine wa_set0 4 ?_
        exact ih (by omega) (by rw [if_neg (Int32.not_le.mpr hT46)] at hq; exact hq)
      · refine wa_aload dX10_homeFee_49 rfl rfl ?_
        refine wa_aload_n dX10_homeFee_51 rfl rfl ?_
        refine wa_callV (q := (RX6, TX6, 2)) (As := [.ref (pp i)]) dX10_homeFee_52 lk_X10_166 rfl rfl htn.1 rfl rfl (Nat.le_of_ble_eq_true rfl) (Nat.le_of_eq (Nat.zero_add _)) (Nat.le_of_eq (Nat.zero_add _)) (k_X6_feeOf (pp i) (la n) htn hai ?_)
        refine wa_istore dX10_homeFee_55 (by decide) rfl rfl ?_
        refine wa_iload dX10_homeFee_57 rfl ?_
        refine wa_bipush (v := -2) dX10_homeFee_59 (by decide) ?_
        refine wa_icmp_ne (tgt := 70) dX10_homeFee_61 (by decide) (fun hT61 => ?_) (fun hF61 => ?_)
        · refine wa_iload dX10_homeFee_70 rfl ?_
          exact wa_iret dX10_homeFee_72 rfl (by rw [if_pos (Int32.not_lt.mp hF46)] at hq; unfold rg_ at hq; first | (rw [if_pos (by assumption)] at hq; exact hq) | (rw [if_neg (by assumption)] at hq; exact hq))
        · refine wa_sipush (v := -10000) dX10_homeFee_64 (by decide) ?_
          refine wa_goto (tgt := 72) dX10_homeFee_67 (by decide) ?_
          exact wa_iret dX10_homeFee_72 rfl (by rw [if_pos (Int32.not_lt.mp hF46)] at hq; unfold rg_ at hq; first | (rw [if_pos (by assumption)] at hq; exact hq) | (rw [if_neg (by assumption)] at hq; exact hq))
  refine wa_aload_n dX10_homeFee_0 rfl rfl ?_
  refine wa_iload_n dX10_homeFee_1 rfl ?_
  refine wa_callV (q := (RX10, TX10, 13)) (As := [.int k]) dX10_homeFee_2 lk_X10_186 rfl rfl hx.1.1 rfl rfl (Nat.le_of_ble_eq_true rfl) (Nat.le_of_eq (Nat.zero_add _)) (Nat.le_of_eq (Nat.zero_add _)) (k_X10_paperAt k N pp tk hx hN (fun i ei hi => ?_) (fun hAi => ?_))
  · subst ei
    have hai := (hN.2.2 i hi).2.1
    refine wa_astore_n dX10_homeFee_5 (by decide) rfl rfl rfl ?_
    refine wa_aload_n dX10_homeFee_6 rfl rfl ?_
    refine wa_ifnonnullR (tgt := 14) dX10_homeFee_7 (by decide) ?_
    refine wa_aload_n dX10_homeFee_14 rfl rfl ?_
    refine wa_getI (q := (RX10, TX10, 13)) (ci := 10) (k := 8) dX10_homeFee_15 rfl (by decide) wf_X10_61 hx.1.1 rfl ?_
    rw [hT.1]
    refine wa_iconst (v := 1) dX10_homeFee_18 (by decide) ?_
    refine wa_isub dX10_homeFee_19 ?_
    refine wa_istore_n dX10_homeFee_20 (by decide) rfl rfl ?_
    exact lp i hai T (Nat.le_refl _) (h1 i rfl hi)
  · refine wa_astore_n dX10_homeFee_5 (by decide) rfl rfl rfl ?_
    refine wa_aload_n dX10_homeFee_6 rfl rfl ?_
    refine wa_ifnonnullN dX10_homeFee_7 ?_
    refine wa_sipush (v := -10000) dX10_homeFee_10 (by decide) ?_
    exact wa_iret dX10_homeFee_13 rfl (h0 hAi)
