theorem k_X7_init {G : mm_G} {d : Nat} {Q : Option Value → mm_M → Prop} {M : mm_M} {e : Nat} (u : Int32) (v : Int32) (w : Int32) (he : mm_sh M e = some (.inl 7)) (hQ : Q none (mm_sI (mm_sI (mm_sI M e 0 u) e 1 v) e 2 w)) : ma_ G jX7_init (d + 1) 0 0 [.ref e, .int u, .int v, .int w] M Q := by
  refine ma_of [some (.ref e), some (.int u), some (.int v), some (.int w)] (by decide) rfl (Nat.le_of_ble_eq_true rfl) ?_
  refine wa_aload_n dX7_init_0 rfl rfl ?_
  refine wa_obj dX7_init_1 lo_X7_1 wi_obj wk_obj (Nat.le_of_ble_eq_true rfl) ?_
  refine wa_aload_n dX7_init_4 rfl rfl ?_
  refine wa_iload_n dX7_init_5 rfl ?_
  refine wa_putF (q := (RX7, TX7, 3)) (ci := 7) (k := 0) dX7_init_6 rfl (by decide) wf_X7_7 rfl rfl (by decide) rfl he rfl ?_
  refine wa_aload_n dX7_init_9 rfl rfl ?_
  refine wa_iload_n dX7_init_10 rfl ?_
  refine wa_putF (q := (RX7, TX7, 3)) (ci := 7) (k := 1) dX7_init_11 rfl (by decide) wf_X7_13 rfl rfl (by decide) rfl he rfl ?_
  refine wa_aload_n dX7_init_14 rfl rfl ?_
  refine wa_iload_n dX7_init_15 rfl ?_
  refine wa_putF (q := (RX7, TX7, 3)) (ci := 7) (k := 2) dX7_init_16 rfl (by decide) wf_X7_16 rfl rfl (by decide) rfl he rfl ?_
  exact wa_vret dX7_init_19 rfl (hQ)

theorem k_X8_init {G : mm_G} {d : Nat} {Q : Option Value → mm_M → Prop} {M : mm_M} {e : Nat} (u : Int32) (v : Int32) (w : Int32) (he : mm_sh M e = some (.inl 8)) (hQ : Q none (mm_sI (mm_sI (mm_sI M e 0 u) e 1 v) e 2 w)) : ma_ G jX8_init (d + 1) 0 0 [.ref e, .int u, .int v, .int w] M Q := by
  refine ma_of [some (.ref e), some (.int u), some (.int v), some (.int w)] (by decide) rfl (Nat.le_of_ble_eq_true rfl) ?_
  refine wa_aload_n dX8_init_0 rfl rfl ?_
  refine wa_obj dX8_init_1 lo_X8_1 wi_obj wk_obj (Nat.le_of_ble_eq_true rfl) ?_
  refine wa_aload_n dX8_init_4 rfl rfl ?_
  refine wa_iload_n dX8_init_5 rfl ?_
  refine wa_putF (q := (RX8, TX8, 3)) (ci := 8) (k := 0) dX8_init_6 rfl (by decide) wf_X8_7 rfl rfl (by decide) rfl he rfl ?_
  refine wa_aload_n dX8_init_9 rfl rfl ?_
  refine wa_iload_n dX8_init_10 rfl ?_
  refine wa_putF (q := (RX8, TX8, 3)) (ci := 8) (k := 1) dX8_init_11 rfl (by decide) wf_X8_13 rfl rfl (by decide) rfl he rfl ?_
  refine wa_aload_n dX8_init_14 rfl rfl ?_
  refine wa_iload_n dX8_init_15 rfl ?_
  refine wa_putF (q := (RX8, TX8, 3)) (ci := 8) (k := 2) dX8_init_16 rfl (by decide) wf_X8_16 rfl rfl (by decide) rfl he rfl ?_
  exact wa_vret dX8_init_19 rfl (hQ)

theorem k_X6_init {G : mm_G} {d : Nat} {Q : Option Value → mm_M → Prop} {M : mm_M} {t : Nat} (u : Int32) (la : Nat) (ht : mm_sh M t = some (.inl 6)) (hQ : Q none (mm_sR (mm_sI M t 0 u) t 1 (some la))) : ma_ G jX6_init (d + 1) 0 0 [.ref t, .int u, .ref la] M Q := by
  refine ma_of [some (.ref t), some (.int u), some (.ref la)] (by decide) rfl (Nat.le_of_ble_eq_true rfl) ?_
  refine wa_aload_n dX6_init_0 rfl rfl ?_
  refine wa_obj dX6_init_1 lo_X6_3 wi_obj wk_obj (Nat.le_of_ble_eq_true rfl) ?_
  refine wa_aload_n dX6_init_4 rfl rfl ?_
  refine wa_iload_n dX6_init_5 rfl ?_
  refine wa_putF (q := (RX6, TX6, 2)) (ci := 6) (k := 0) dX6_init_6 rfl (by decide) wf_X6_9 rfl rfl (by decide) rfl ht rfl ?_
  refine wa_aload_n dX6_init_9 rfl rfl ?_
  refine wa_aload_n dX6_init_10 rfl rfl ?_
  refine wa_putF (q := (RX6, TX6, 2)) (ci := 6) (k := 1) dX6_init_11 rfl (by decide) wf_X6_15 rfl rfl (by decide) rfl ht rfl ?_
  exact wa_vret dX6_init_14 rfl (hQ)

theorem k_X2_init {G : mm_G} {d : Nat} {Q : Option Value → mm_M → Prop} {M : mm_M} {a : Nat} (p : Int32) (k : Int32) (v : Int32) (s : Int32) (h : Int32) (ha : mm_sh M a = some (.inl 2)) (hQ : Q none (mm_sI (mm_sI (mm_sI (mm_sI (mm_sI (mm_sR (mm_sI (mm_sI (mm_sI M a 5 0) a 6 0) a 7 0) a 8 none) a 0 p) a 1 k) a 2 v) a 3 s) a 4 h)) : ma_ G jX2_init (d + 1) 0 0 [.ref a, .int p, .int k, .int v, .int s, .int h] M Q := by
  refine ma_of [some (.ref a), some (.int p), some (.int k), some (.int v), some (.int s), some (.int h)] (by decide) rfl (Nat.le_of_ble_eq_true rfl) ?_
  refine wa_aload_n dX2_init_0 rfl rfl ?_
  refine wa_obj dX2_init_1 lo_X2_3 wi_obj wk_obj (Nat.le_of_ble_eq_true rfl) ?_
  refine wa_aload_n dX2_init_4 rfl rfl ?_
  refine wa_iconst (v := 0) dX2_init_5 (by decide) ?_
  refine wa_put (q := (RX2, TX2, 9)) (ci := 2) (k := 5) dX2_init_6 rfl (by decide) wf_X2_9 rfl ha rfl ?_
  refine wa_aload_n dX2_init_9 rfl rfl ?_
  refine wa_iconst (v := 0) dX2_init_10 (by decide) ?_
  refine wa_put (q := (RX2, TX2, 9)) (ci := 2) (k := 6) dX2_init_11 rfl (by decide) wf_X2_15 rfl ha rfl ?_
  refine wa_aload_n dX2_init_14 rfl rfl ?_
  refine wa_iconst (v := 0) dX2_init_15 (by decide) ?_
  refine wa_put (q := (RX2, TX2, 9)) (ci := 2) (k := 7) dX2_init_16 rfl (by decide) wf_X2_18 rfl ha rfl ?_
  refine wa_aload_n dX2_init_19 rfl rfl ?_
  refine wa_null dX2_init_20 ?_
  refine wa_put (q := (RX2, TX2, 9)) (ci := 2) (k := 8) dX2_init_21 rfl (by decide) wf_X2_21 rfl ha rfl ?_
  refine wa_aload_n dX2_init_24 rfl rfl ?_
  refine wa_iload_n dX2_init_25 rfl ?_
  refine wa_putF (q := (RX2, TX2, 9)) (ci := 2) (k := 0) dX2_init_26 rfl (by decide) wf_X2_25 rfl rfl (by decide) rfl ha rfl ?_
  refine wa_aload_n dX2_init_29 rfl rfl ?_
  refine wa_iload_n dX2_init_30 rfl ?_
  refine wa_putF (q := (RX2, TX2, 9)) (ci := 2) (k := 1) dX2_init_31 rfl (by decide) wf_X2_28 rfl rfl (by decide) rfl ha rfl ?_
  refine wa_aload_n dX2_init_34 rfl rfl ?_
  refine wa_iload_n dX2_init_35 rfl ?_
  refine wa_putF (q := (RX2, TX2, 9)) (ci := 2) (k := 2) dX2_init_36 rfl (by decide) wf_X2_31 rfl rfl (by decide) rfl ha rfl ?_
  refine wa_aload_n dX2_init_39 rfl rfl ?_
  refine wa_iload dX2_init_40 rfl ?_
  refine wa_putF (q := (RX2, TX2, 9)) (ci := 2) (k := 3) dX2_init_42 rfl (by decide) wf_X2_34 rfl rfl (by decide) rfl ha rfl ?_
  refine wa_aload_n dX2_init_45 rfl rfl ?_
  refine wa_iload dX2_init_46 rfl ?_
  refine wa_putF (q := (RX2, TX2, 9)) (ci := 2) (k := 4) dX2_init_48 rfl (by decide) wf_X2_37 rfl rfl (by decide) rfl ha rfl ?_
  exact wa_vret dX2_init_51 rfl (hQ)

theorem k_X5_clear {G : mm_G} {d : Nat} {Q : Option Value → mm_M → Prop} {M : mm_M} {e : Nat} (he : tap_ M e) (hQ : Q none (mm_sI M e 1 0)) : ma_ G jX5_clear d 0 0 [.ref e] M Q := by
  refine ma_of [some (.ref e)] (by decide) rfl (Nat.le_of_ble_eq_true rfl) ?_
  refine wa_aload_n dX5_clear_0 rfl rfl ?_
  refine wa_iconst (v := 0) dX5_clear_1 (by decide) ?_
  refine wa_put (q := (RX5, TX5, 2)) (ci := 5) (k := 1) dX5_clear_2 rfl (by decide) wf_X5_15 rfl he.1 rfl ?_
  exact wa_vret dX5_clear_5 rfl (hQ)

/-- a byte of the tape, a blank behind its end -/
def ta_ (M : mm_M) (e n k : Nat) : Int32 := if k < n then mm_I M (e + 1) k else 32

theorem k_X5_at {G : mm_G} {d : Nat} {Q : Option Value → mm_M → Prop} {M : mm_M} {e : Nat} (k : Nat) (n : Nat) (he : tap_ M e) (hn : mm_I M e 1 = nI n) (hn3 : n ≤ 300) (hk : k ≤ 1000) (hQ : Q (some (.int (ta_ M e n k))) M) : ma_ G jX5_at d 0 0 [.ref e, .int (nI k)] M Q := by
  refine ma_of [some (.ref e), some (.int (nI k))] (by decide) rfl (Nat.le_of_ble_eq_true rfl) ?_
  refine wa_iload_n dX5_at_0 rfl ?_
  refine wa_if_lt (tgt := 30) dX5_at_1 (by decide) (fun hT1 => absurd hT1 (nI_pos (by omega))) (fun hF1 => ?_)
  refine wa_iload_n dX5_at_4 rfl ?_
  refine wa_aload_n dX5_at_5 rfl rfl ?_
  refine wa_getI (q := (RX5, TX5, 2)) (ci := 5) (k := 1) dX5_at_6 rfl (by decide) wf_X5_15 he.1 rfl ?_
  rw [hn]
  refine wa_icmp_ge (tgt := 30) dX5_at_9 (by decide) (fun hT9 => ?_) (fun hF9 => ?_)
  · refine wa_bipush (v := 32) dX5_at_30 (by decide) ?_
    exact wa_iret dX5_at_32 rfl (by unfold ta_ at hQ; first | (rw [if_neg (Nat.not_lt.mpr (ni_le hT9 (by omega) (by omega)))] at hQ; exact hQ) | (rw [if_pos (ni_nle hF9 (by omega) (by omega))] at hQ; exact hQ))
  · refine wa_iload_n dX5_at_12 rfl ?_
    refine wa_aload_n dX5_at_13 rfl rfl ?_
    refine wa_getR (q := (RX5, TX5, 2)) (ci := 5) (k := 0) dX5_at_14 rfl (by decide) wf_X5_9 he.1 rfl (tap_r0 he) ?_
    refine wa_alen dX5_at_17 (tap_s0 he) ?_
    refine wa_icmp_ge (tgt := 30) dX5_at_18 (by decide) (fun hT18 => absurd hT18 (nI_ge (b := 300) (have := ni_nle hF9 (by omega) (by omega); by omega) (by decide))) (fun hF18 => ?_)
    refine wa_aload_n dX5_at_21 rfl rfl ?_
    refine wa_getR (q := (RX5, TX5, 2)) (ci := 5) (k := 0) dX5_at_22 rfl (by decide) wf_X5_9 he.1 rfl (tap_r0 he) ?_
    refine wa_iload_n dX5_at_25 rfl ?_
    refine wa_ialdN dX5_at_26 (tap_s0 he) (Or.inl rfl) (have := ni_nle hF9 (by omega) (by omega); by omega) (by decide) ?_
    refine wa_goto (tgt := 32) dX5_at_27 (by decide) ?_
    exact wa_iret dX5_at_32 rfl (by unfold ta_ at hQ; first | (rw [if_neg (Nat.not_lt.mpr (ni_le hT9 (by omega) (by omega)))] at hQ; exact hQ) | (rw [if_pos (ni_nle hF9 (by omega) (by omega))] at hQ; exact hQ))

/-- a number's bytes come to the tape -/
def tb_ (v : Int32) (k : Nat) : Int32 := (v.toUInt32 >>> ((nI (24 - 8 * k)).toUInt32 &&& Int32.toUInt32 31)).toInt32 &&& 255
def td_ (M : mm_M) (e n : Nat) (v : Int32) : Nat → mm_M
  | 0 => M
  | k + 1 => mm_sI (mm_sI (td_ M e n v k) (e + 1) (n + k) (tb_ v k)) e 1 (nI (n + k + 1))
theorem td_sk (M : mm_M) (e n : Nat) (v : Int32) (k : Nat) : md_sk M (td_ M e n v k) := by
  induction k with
  | zero => exact md_sk_rf M
  | succ k ih => exact ih
theorem md_sk_tap {M M' : mm_M} {y : Nat} (h : md_sk M M') (hY : tap_ M y) : tap_ M' y := by
  obtain ⟨M1, MI, M2⟩ := M
  obtain ⟨N1, NI, N2⟩ := M'
  obtain ⟨h1, h2⟩ := h
  cases h1
  cases h2
  exact hY
theorem md_sk_dsk {M M' : mm_M} {y : Nat} (h : md_sk M M') (hY : dsk_ M y) : dsk_ M' y := by
  obtain ⟨M1, MI, M2⟩ := M
  obtain ⟨N1, NI, N2⟩ := M'
  obtain ⟨h1, h2⟩ := h
  cases h1
  cases h2
  exact hY
theorem td_len {M : mm_M} {e n : Nat} {v : Int32} (hn : mm_I M e 1 = nI n) : ∀ k, mm_I (td_ M e n v k) e 1 = nI (n + k) := by
  intro k
  cases k with
  | zero => exact hn
  | succ k =>
    show mm_I (mm_sI _ _ _ _) e 1 = _
    rw [mm_I_sI, if_pos ⟨rfl, rfl⟩]
    rfl
theorem ni_m8 {a : Nat} (h : 8 ≤ a) : nI a + Int32.ofInt (-8) = nI (a - 8) := by
  have e : Int32.ofInt (-8) = -nI 8 := by decide
  rw [e, ← Int32.sub_eq_add_neg, pk_sub h]

theorem k_X5_add {G : mm_G} {d : Nat} {Q : Option Value → mm_M → Prop} {M : mm_M} {e : Nat} (v : Int32) (n : Nat) (he : tap_ M e) (hn : mm_I M e 1 = nI n) (hn4 : n + 4 ≤ 300) (hQ : Q none (td_ M e n v 4)) : ma_ G jX5_add d 0 0 [.ref e, .int v] M Q := by
  refine ma_of [some (.ref e), some (.int v), none] (by decide) rfl (Nat.le_of_ble_eq_true rfl) ?_
  have fin : wa_ 0 G jX5_add d 0 0 Q 0 0 (td_ M e n v 4) 3 [some (.ref e), some (.int v), some (.int (nI 0 + Int32.ofInt (-8)))] [] := by
    refine wa_iload_n dX5_add_3 rfl ?_
    refine wa_if_lt (tgt := 58) dX5_add_4 (by decide) (fun _ => ?_) (fun h9 => absurd h9 (by decide))
    exact wa_vret dX5_add_58 rfl (hQ)
  have lp : ∀ (r k : Nat), 3 - k = r → k ≤ 3 → wa_ 0 G jX5_add d 0 0 Q 0 0 (td_ M e n v k) 3 [some (.ref e), some (.int v), some (.int (nI (24 - 8 * k)))] [] := by
    intro r
    induction r with
    | zero =>
      intro k hr hk
      have hk3 : k = 3 := by omega
      subst hk3
      have he1 : tap_ (td_ M e n v 3) e := md_sk_tap (td_sk _ _ _ _ _) he
      have hl1 := td_len (v := v) hn 3
      have hl2 : mm_I (mm_sI (td_ M e n v 3) (e + 1) (n + 3) (tb_ v 3)) e 1 = nI (n + 3) := by rw [mm_I_sI, if_neg (by omega)]; exact hl1
      refine wa_iload_n dX5_add_3 rfl ?_
      refine wa_if_lt (tgt := 58) dX5_add_4 (by decide) (fun hT4 => absurd hT4 (nI_pos (by omega))) (fun hF4 => ?_)
      refine wa_aload_n dX5_add_7 rfl rfl ?_
      refine wa_getI (q := (RX5, TX5, 2)) (ci := 5) (k := 1) dX5_add_8 rfl (by decide) wf_X5_15 he1.1 rfl ?_
      rw [hl1]
      refine wa_if_lt (tgt := 52) dX5_add_11 (by decide) (fun hT11 => absurd hT11 (nI_pos (by omega))) (fun hF11 => ?_)
      refine wa_aload_n dX5_add_14 rfl rfl ?_
      refine wa_getI (q := (RX5, TX5, 2)) (ci := 5) (k := 1) dX5_add_15 rfl (by decide) wf_X5_15 he1.1 rfl ?_
      rw [hl1]
      refine wa_aload_n dX5_add_18 rfl rfl ?_
      refine wa_getR (q := (RX5, TX5, 2)) (ci := 5) (k := 0) dX5_add_19 rfl (by decide) wf_X5_9 he1.1 rfl (tap_r0 he1) ?_
      refine wa_alen dX5_add_22 (tap_s0 he1) ?_
      refine wa_icmp_ge (tgt := 52) dX5_add_23 (by decide) (fun hT23 => absurd hT23 (nI_ge (b := 300) (by omega) (by decide))) (fun hF23 => ?_)
      refine wa_aload_n dX5_add_26 rfl rfl ?_
      refine wa_getR (q := (RX5, TX5, 2)) (ci := 5) (k := 0) dX5_add_27 rfl (by decide) wf_X5_9 he1.1 rfl (tap_r0 he1) ?_
      refine wa_aload_n dX5_add_30 rfl rfl ?_
      refine wa_getI (q := (RX5, TX5, 2)) (ci := 5) (k := 1) dX5_add_31 rfl (by decide) wf_X5_15 he1.1 rfl ?_
      rw [hl1]
      refine wa_iload_n dX5_add_34 rfl ?_
      refine wa_iload_n dX5_add_35 rfl ?_
      refine wa_iushr dX5_add_36 ?_
      refine wa_sipush (v := 255) dX5_add_37 (by decide) ?_
      refine wa_iand dX5_add_40 ?_
      rw [show (v.toUInt32 >>> ((nI (24 - 8 * 3)).toUInt32 &&& Int32.toUInt32 31)).toInt32 &&& 255 = tb_ v 3 from rfl]
      refine wa_iastN dX5_add_41 (tap_s0 he1) (by omega) (by decide) ?_
      refine wa_aload_n dX5_add_42 rfl rfl ?_
      refine wa_dup dX5_add_43 rfl ?_
      refine wa_getI (q := (RX5, TX5, 2)) (ci := 5) (k := 1) dX5_add_44 rfl (by decide) wf_X5_15 he1.1 rfl ?_
      rw [hl2]
      refine wa_iconst (v := 1) dX5_add_47 (by decide) ?_
      refine wa_iadd dX5_add_48 ?_
      rw [nI_1]
      refine wa_put (q := (RX5, TX5, 2)) (ci := 5) (k := 1) dX5_add_49 rfl (by decide) wf_X5_15 rfl he1.1 rfl ?_
      refine wa_iinc (v := nI 0 + Int32.ofInt (-8)) dX5_add_52 rfl rfl (by decide) rfl rfl ?_
      refine wa_goto (tgt := 3) dX5_add_55 (by decide) ?_
      exact fin
    | succ r ih =>
      intro k hr hk
      have he1 : tap_ (td_ M e n v k) e := md_sk_tap (td_sk _ _ _ _ _) he
      have hl1 := td_len (v := v) hn k
      have hl2 : mm_I (mm_sI (td_ M e n v k) (e + 1) (n + k) (tb_ v k)) e 1 = nI (n + k) := by rw [mm_I_sI, if_neg (by omega)]; exact hl1
      refine wa_iload_n dX5_add_3 rfl ?_
      refine wa_if_lt (tgt := 58) dX5_add_4 (by decide) (fun hT4 => absurd hT4 (nI_pos (by omega))) (fun hF4 => ?_)
      refine wa_aload_n dX5_add_7 rfl rfl ?_
      refine wa_getI (q := (RX5, TX5, 2)) (ci := 5) (k := 1) dX5_add_8 rfl (by decide) wf_X5_15 he1.1 rfl ?_
      rw [hl1]
      refine wa_if_lt (tgt := 52) dX5_add_11 (by decide) (fun hT11 => absurd hT11 (nI_pos (by omega))) (fun hF11 => ?_)
      refine wa_aload_n dX5_add_14 rfl rfl ?_
      refine wa_getI (q := (RX5, TX5, 2)) (ci := 5) (k := 1) dX5_add_15 rfl (by decide) wf_X5_15 he1.1 rfl ?_
      rw [hl1]
      refine wa_aload_n dX5_add_18 rfl rfl ?_
      refine wa_getR (q := (RX5, TX5, 2)) (ci := 5) (k := 0) dX5_add_19 rfl (by decide) wf_X5_9 he1.1 rfl (tap_r0 he1) ?_
      refine wa_alen dX5_add_22 (tap_s0 he1) ?_
      refine wa_icmp_ge (tgt := 52) dX5_add_23 (by decide) (fun hT23 => absurd hT23 (nI_ge (b := 300) (by omega) (by decide))) (fun hF23 => ?_)
      refine wa_aload_n dX5_add_26 rfl rfl ?_
      refine wa_getR (q := (RX5, TX5, 2)) (ci := 5) (k := 0) dX5_add_27 rfl (by decide) wf_X5_9 he1.1 rfl (tap_r0 he1) ?_
      refine wa_aload_n dX5_add_30 rfl rfl ?_
      refine wa_getI (q := (RX5, TX5, 2)) (ci := 5) (k := 1) dX5_add_31 rfl (by decide) wf_X5_15 he1.1 rfl ?_
      rw [hl1]
      refine wa_iload_n dX5_add_34 rfl ?_
      refine wa_iload_n dX5_add_35 rfl ?_
      refine wa_iushr dX5_add_36 ?_
      refine wa_sipush (v := 255) dX5_add_37 (by decide) ?_
      refine wa_iand dX5_add_40 ?_
      rw [show (v.toUInt32 >>> ((nI (24 - 8 * k)).toUInt32 &&& Int32.toUInt32 31)).toInt32 &&& 255 = tb_ v k from rfl]
      refine wa_iastN dX5_add_41 (tap_s0 he1) (by omega) (by decide) ?_
      refine wa_aload_n dX5_add_42 rfl rfl ?_
      refine wa_dup dX5_add_43 rfl ?_
      refine wa_getI (q := (RX5, TX5, 2)) (ci := 5) (k := 1) dX5_add_44 rfl (by decide) wf_X5_15 he1.1 rfl ?_
      rw [hl2]
      refine wa_iconst (v := 1) dX5_add_47 (by decide) ?_
      refine wa_iadd dX5_add_48 ?_
      rw [nI_1]
      refine wa_put (q := (RX5, TX5, 2)) (ci := 5) (k := 1) dX5_add_49 rfl (by decide) wf_X5_15 rfl he1.1 rfl ?_
      refine wa_iinc (v := nI (24 - 8 * (k + 1))) dX5_add_52 rfl (by rw [ni_m8 (by omega)]; exact congrArg nI (by omega)) (by decide) rfl rfl ?_
      refine wa_goto (tgt := 3) dX5_add_55 (by decide) ?_
      exact ih (k + 1) (by omega) (by omega)
  refine wa_bipush (v := 24) dX5_add_0 (by decide) ?_
  refine wa_istore_n dX5_add_2 (by decide) rfl rfl ?_
  exact lp 3 0 (by omega) (by omega)

theorem k_X10_feed {G : mm_G} {d : Nat} {Q : Option Value → mm_M → Prop} {M : mm_M} {x : Nat} (a b c f g : Int32) (n : Nat) (hx : dsk_ M x) (hn : mm_I M (x + 4) 1 = nI n) (hn3 : n ≤ 300) (h0 : ¬ n + 20 ≤ 300 → Q (some (.int (-1))) M) (h1 : n + 20 ≤ 300 → Q (some (.int (nI (n + 20)))) (td_ (td_ (td_ (td_ (td_ M (x + 4) (n + 0) a 4) (x + 4) (n + 4) b 4) (x + 4) (n + 8) c 4) (x + 4) (n + 12) f 4) (x + 4) (n + 16) g 4)) : ma_ G jX10_feed (d + 1) 0 0 [.ref x, .int a, .int b, .int c, .int f, .int g] M Q := by
  refine ma_of [some (.ref x), some (.int a), some (.int b), some (.int c), some (.int f), some (.int g)] (by decide) rfl (Nat.le_of_ble_eq_true rfl) ?_
  have hz0 := hx.2.1
  have hxx0 : dsk_ M x := hx
  have hnn0 : mm_I M (x + 4) 1 = nI (n + 0) := hn
  have hxx1 : dsk_ (td_ M (x + 4) (n + 0) a 4) x := md_sk_dsk (td_sk _ _ _ _ _) hxx0
  have hnn1 : mm_I (td_ M (x + 4) (n + 0) a 4) (x + 4) 1 = nI (n + 4) := td_len (v := a) hnn0 4
  have hxx2 : dsk_ (td_ (td_ M (x + 4) (n + 0) a 4) (x + 4) (n + 4) b 4) x := md_sk_dsk (td_sk _ _ _ _ _) hxx1
  have hnn2 : mm_I (td_ (td_ M (x + 4) (n + 0) a 4) (x + 4) (n + 4) b 4) (x + 4) 1 = nI (n + 8) := td_len (v := b) hnn1 4
  have hxx3 : dsk_ (td_ (td_ (td_ M (x + 4) (n + 0) a 4) (x + 4) (n + 4) b 4) (x + 4) (n + 8) c 4) x := md_sk_dsk (td_sk _ _ _ _ _) hxx2
  have hnn3 : mm_I (td_ (td_ (td_ M (x + 4) (n + 0) a 4) (x + 4) (n + 4) b 4) (x + 4) (n + 8) c 4) (x + 4) 1 = nI (n + 12) := td_len (v := c) hnn2 4
  have hxx4 : dsk_ (td_ (td_ (td_ (td_ M (x + 4) (n + 0) a 4) (x + 4) (n + 4) b 4) (x + 4) (n + 8) c 4) (x + 4) (n + 12) f 4) x := md_sk_dsk (td_sk _ _ _ _ _) hxx3
  have hnn4 : mm_I (td_ (td_ (td_ (td_ M (x + 4) (n + 0) a 4) (x + 4) (n + 4) b 4) (x + 4) (n + 8) c 4) (x + 4) (n + 12) f 4) (x + 4) 1 = nI (n + 16) := td_len (v := f) hnn3 4
  have hxx5 : dsk_ (td_ (td_ (td_ (td_ (td_ M (x + 4) (n + 0) a 4) (x + 4) (n + 4) b 4) (x + 4) (n + 8) c 4) (x + 4) (n + 12) f 4) (x + 4) (n + 16) g 4) x := md_sk_dsk (td_sk _ _ _ _ _) hxx4
  have hnn5 : mm_I (td_ (td_ (td_ (td_ (td_ M (x + 4) (n + 0) a 4) (x + 4) (n + 4) b 4) (x + 4) (n + 8) c 4) (x + 4) (n + 12) f 4) (x + 4) (n + 16) g 4) (x + 4) 1 = nI (n + 20) := td_len (v := g) hnn4 4
  refine wa_aload_n dX10_feed_0 rfl rfl ?_
  refine wa_getR (q := (RX10, TX10, 13)) (ci := 10) (k := 3) dX10_feed_1 rfl (by decide) wf_X10_30 hx.1.1 rfl (dsk_r3 hx) ?_
  refine wa_getI (q := (RX5, TX5, 2)) (ci := 5) (k := 1) dX10_feed_4 rfl (by decide) wf_X10_90 hx.2.1.1 rfl ?_
  rw [hn]
  refine wa_bipush (v := 20) dX10_feed_7 (by decide) ?_
  refine wa_iadd dX10_feed_9 ?_
  rw [show nI n + 20 = nI (n + 20) from nI_add n 20]
  refine wa_sipush (v := 300) dX10_feed_10 (by decide) ?_
  refine wa_icmp_le (tgt := 18) dX10_feed_13 (by decide) (fun hT13 => ?_) (fun hF13 => ?_)
  · have hm9 : n + 20 ≤ 300 := ni_le (b := 300) hT13 (by omega) (by decide)
    refine wa_aload_n dX10_feed_18 rfl rfl ?_
    refine wa_getR (q := (RX10, TX10, 13)) (ci := 10) (k := 3) dX10_feed_19 rfl (by decide) wf_X10_30 hxx0.1.1 rfl (dsk_r3 hxx0) ?_
    refine wa_iload_n dX10_feed_22 rfl ?_
    refine wa_callV (q := (RX5, TX5, 2)) (As := [.int a]) dX10_feed_23 lk_X10_93 rfl rfl hxx0.2.1.1 rfl rfl (Nat.le_of_ble_eq_true rfl) (Nat.le_of_eq (Nat.zero_add _)) (Nat.le_of_eq (Nat.zero_add _)) (k_X5_add a (n + 0) hxx0.2.1 hnn0 (by omega) ?_)
    refine wa_aload_n dX10_feed_26 rfl rfl ?_
    refine wa_getR (q := (RX10, TX10, 13)) (ci := 10) (k := 3) dX10_feed_27 rfl (by decide) wf_X10_30 hxx1.1.1 rfl (dsk_r3 hxx1) ?_
    refine wa_iload_n dX10_feed_30 rfl ?_
    refine wa_callV (q := (RX5, TX5, 2)) (As := [.int b]) dX10_feed_31 lk_X10_93 rfl rfl hxx1.2.1.1 rfl rfl (Nat.le_of_ble_eq_true rfl) (Nat.le_of_eq (Nat.zero_add _)) (Nat.le_of_eq (Nat.zero_add _)) (k_X5_add b (n + 4) hxx1.2.1 hnn1 (by omega) ?_)
    refine wa_aload_n dX10_feed_34 rfl rfl ?_
    refine wa_getR (q := (RX10, TX10, 13)) (ci := 10) (k := 3) dX10_feed_35 rfl (by decide) wf_X10_30 hxx2.1.1 rfl (dsk_r3 hxx2) ?_
    refine wa_iload_n dX10_feed_38 rfl ?_
    refine wa_callV (q := (RX5, TX5, 2)) (As := [.int c]) dX10_feed_39 lk_X10_93 rfl rfl hxx2.2.1.1 rfl rfl (Nat.le_of_ble_eq_true rfl) (Nat.le_of_eq (Nat.zero_add _)) (Nat.le_of_eq (Nat.zero_add _)) (k_X5_add c (n + 8) hxx2.2.1 hnn2 (by omega) ?_)
    refine wa_aload_n dX10_feed_42 rfl rfl ?_
    refine wa_getR (q := (RX10, TX10, 13)) (ci := 10) (k := 3) dX10_feed_43 rfl (by decide) wf_X10_30 hxx3.1.1 rfl (dsk_r3 hxx3) ?_
    refine wa_iload dX10_feed_46 rfl ?_
    refine wa_callV (q := (RX5, TX5, 2)) (As := [.int f]) dX10_feed_48 lk_X10_93 rfl rfl hxx3.2.1.1 rfl rfl (Nat.le_of_ble_eq_true rfl) (Nat.le_of_eq (Nat.zero_add _)) (Nat.le_of_eq (Nat.zero_add _)) (k_X5_add f (n + 12) hxx3.2.1 hnn3 (by omega) ?_)
    refine wa_aload_n dX10_feed_51 rfl rfl ?_
    refine wa_getR (q := (RX10, TX10, 13)) (ci := 10) (k := 3) dX10_feed_52 rfl (by decide) wf_X10_30 hxx4.1.1 rfl (dsk_r3 hxx4) ?_
    refine wa_iload dX10_feed_55 rfl ?_
    refine wa_callV (q := (RX5, TX5, 2)) (As := [.int g]) dX10_feed_57 lk_X10_93 rfl rfl hxx4.2.1.1 rfl rfl (Nat.le_of_ble_eq_true rfl) (Nat.le_of_eq (Nat.zero_add _)) (Nat.le_of_eq (Nat.zero_add _)) (k_X5_add g (n + 16) hxx4.2.1 hnn4 (by omega) ?_)
    refine wa_aload_n dX10_feed_60 rfl rfl ?_
    refine wa_getR (q := (RX10, TX10, 13)) (ci := 10) (k := 3) dX10_feed_61 rfl (by decide) wf_X10_30 hxx5.1.1 rfl (dsk_r3 hxx5) ?_
    refine wa_getI (q := (RX5, TX5, 2)) (ci := 5) (k := 1) dX10_feed_64 rfl (by decide) wf_X10_90 hxx5.2.1.1 rfl ?_
    exact wa_iret dX10_feed_67 rfl (by rw [hnn5]; exact h1 hm9)
  · refine wa_iconst (v := -1) dX10_feed_16 (by decide) ?_
    exact wa_iret dX10_feed_17 rfl (h0 (fun z => hF13 (nI_le z (by decide))))


theorem k_X10_under {G : mm_G} {d : Nat} {Q : Option Value → mm_M → Prop} {M : mm_M} {x : Nat} (w : Int32) (P T : Nat) (pa : Nat → Nat) (hx : dsk_ M x) (hP : dP_ M x P T pa) (g : Nat → Int32) (hN : w < 0 ∨ 2 < w → Q (some (.int (-1))) M) (h0 : w = nI 0 → ∀ i, i < P → nI (0 + ct_ (po_ M (pa i) T (mm_I M x 10)) T) = g i) (h1 : w = nI 1 → ∀ i, i < P → nI (0 + ct_ (pk_o M (pa i) T (mm_I M x 10)) T) = g i) (h2 : w = nI 2 → ∀ i, i < P → (ab_ (mm_I M x 10) - ab_ (mm_I M (pa i) 1) - (if 0 < ab_ (mm_I M x 10 - mm_I M (pa i) 0 + 1) - ab_ (mm_I M (pa i) 1) then ab_ (mm_I M x 10 - mm_I M (pa i) 0 + 1) - ab_ (mm_I M (pa i) 1) else 0)) = g i) (hQ : (w = nI 0 ∨ w = nI 1 ∨ w = nI 2) → Q (some (.int (si_ (fun q => g q) P))) M) : ma_ G jX10_under (d + 5) 0 0 [.ref x, .int w] M Q := by
  refine ma_of [some (.ref x), some (.int w), none, none, none] (by decide) rfl (Nat.le_of_ble_eq_true rfl) ?_
  have hP8 := hP.2.1
  have lp : (w = nI 0 ∨ w = nI 1 ∨ w = nI 2) → ∀ (r i : Nat), P - i = r → i ≤ P → wa_ 0 G jX10_under (d + 5) 0 0 Q 0 0 M 15 [some (.ref x), some (.int w), some (.int (si_ (fun q => g q) i)), some (.int (nI i)), none] [] := by
    intro hw r
    induction r with
    | zero =>
      intro i hr hi
      have hiP : i = P := by omega
      subst hiP
      refine wa_iload_n dX10_under_15 rfl ?_
      refine wa_aload_n dX10_under_16 rfl rfl ?_
      refine wa_getI (q := (RX10, TX10, 13)) (ci := 10) (k := 7) dX10_under_17 rfl (by decide) wf_X10_57 hx.1.1 rfl ?_
      rw [hP.1]
      refine wa_icmp_ge (tgt := 54) dX10_under_20 (by decide) (fun hT20 => ?_) (fun hF20 => absurd (nI_le (Nat.le_refl _) (by omega)) hF20)
      refine wa_iload_n dX10_under_54 rfl ?_
      exact wa_iret dX10_under_55 rfl (hQ hw)
    | succ r ih =>
      intro i hr hi
      have ih9 := ih (i + 1) (by omega) (by omega)
      refine wa_iload_n dX10_under_15 rfl ?_
      refine wa_aload_n dX10_under_16 rfl rfl ?_
      refine wa_getI (q := (RX10, TX10, 13)) (ci := 10) (k := 7) dX10_under_17 rfl (by decide) wf_X10_57 hx.1.1 rfl ?_
      rw [hP.1]
      refine wa_icmp_ge (tgt := 54) dX10_under_20 (by decide) (fun hT20 => absurd hT20 (nI_ge (by omega) (by omega))) (fun hF20 => ?_)
      refine wa_aload_n dX10_under_23 rfl rfl ?_
      refine wa_iload_n dX10_under_24 rfl ?_
      refine wa_callV (q := (RX10, TX10, 13)) (As := [.int (nI i)]) dX10_under_25 lk_X10_119 rfl rfl hx.1.1 rfl rfl (Nat.le_of_ble_eq_true rfl) (Nat.le_of_eq (Nat.zero_add _)) (Nat.le_of_eq (Nat.zero_add _)) (k_X10_portAt (nI i) P T pa hx hP (fun q9 e9 h9 => ?_) (fun z9 => absurd z9 (by rintro (z | z) <;> first | exact nI_pos (by omega) z | exact nI_ge (by omega) (by omega) z)))
      obtain rfl : i = q9 := (nI_eq (by omega) (by omega)).mp e9
      have hpi := (hP.2.2.2 i h9).2.1
      refine wa_astore dX10_under_28 (by decide) rfl rfl rfl ?_
      refine wa_aload dX10_under_30 rfl rfl ?_
      refine wa_ifnullR dX10_under_32 ?_
      have hg9 : ∀ v : Int32, v = g i → wa_ 0 G jX10_under (d + 5) 0 0 Q 0 0 M 46 [some (.ref x), some (.int w), some (.int (si_ (fun q => g q) i)), some (.int (nI i)), some (.ref (pa i))] [.int v, .int (si_ (fun q => g q) i)] := by
        intro v hv
        subst hv
        refine wa_iadd dX10_under_46 ?_
        refine wa_istore_n dX10_under_47 (by decide) rfl rfl ?_
        refine wa_iinc (v := nI (i + 1)) dX10_under_48 rfl (ni_i1 i) (by decide) rfl rfl ?_
        refine wa_goto (tgt := 15) dX10_under_51 (by decide) ?_
        refine wa_set0 4 ?_
        exact ih9
      refine wa_iload_n dX10_under_35 rfl ?_
      refine wa_aload dX10_under_36 rfl rfl ?_
      refine wa_iload_n dX10_under_38 rfl ?_
      refine wa_aload_n dX10_under_39 rfl rfl ?_
      refine wa_getI (q := (RX10, TX10, 13)) (ci := 10) (k := 10) dX10_under_40 rfl (by decide) wf_X10_67 hx.1.1 rfl ?_
      refine wa_callV (q := (RX3, TX3, 8)) (As := [.int w, .int (mm_I M x 10)]) dX10_under_43 lk_X10_141 rfl rfl hpi.1 rfl rfl (Nat.le_of_ble_eq_true rfl) (Nat.le_of_eq (Nat.zero_add _)) (Nat.le_of_eq (Nat.zero_add _)) (k_X3_onTheWay w _ T hpi (hP.2.2.2 i h9).2.2 hP.2.2.1 (fun e => hg9 _ (h0 e i (by omega))) (fun e => hg9 _ (h1 e i (by omega))) (fun e => hg9 _ (h2 e i (by omega))) hw)
  refine wa_iload_n dX10_under_0 rfl ?_
  refine wa_if_lt (tgt := 9) dX10_under_1 (by decide) (fun hT1 => ?_) (fun hF1 => ?_)
  · refine wa_iconst (v := -1) dX10_under_9 (by decide) ?_
    exact wa_iret dX10_under_10 rfl (hN (by first | exact Or.inl (by assumption) | exact Or.inr (Int32.not_le.mp (by assumption))))
  · refine wa_iload_n dX10_under_4 rfl ?_
    refine wa_iconst (v := 2) dX10_under_5 (by decide) ?_
    refine wa_icmp_le (tgt := 11) dX10_under_6 (by decide) (fun hT6 => ?_) (fun hF6 => ?_)
    · refine wa_iconst (v := 0) dX10_under_11 (by decide) ?_
      refine wa_istore_n dX10_under_12 (by decide) rfl rfl ?_
      refine wa_iconst (v := 0) dX10_under_13 (by decide) ?_
      refine wa_istore_n dX10_under_14 (by decide) rfl rfl ?_
      obtain ⟨j, hj, rfl⟩ := ix_in (n := 2) rfl (Int32.not_lt.mp hF1) hT6
      exact lp (by rcases (by omega : j = 0 ∨ j = 1 ∨ j = 2) with rfl | rfl | rfl; exact Or.inl rfl; exact Or.inr (Or.inl rfl); exact Or.inr (Or.inr rfl)) P 0 (by omega) (by omega)
    · refine wa_iconst (v := -1) dX10_under_9 (by decide) ?_
      exact wa_iret dX10_under_10 rfl (hN (by first | exact Or.inl (by assumption) | exact Or.inr (Int32.not_le.mp (by assumption))))
