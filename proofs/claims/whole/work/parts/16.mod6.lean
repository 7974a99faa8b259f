/-! sends, in a row -/
def md_sds (M : mm_M) (y b : Nat) (c : Int32) : Nat → mm_M
  | 0 => M
  | n + 1 => md_snd (md_sds M y b c n) y (b + n) c
theorem md_snd_I (M : mm_M) (y k : Nat) (c : Int32) (a j : Nat) : mm_I (md_snd M y k c) a j = if j = k ∧ a = y + 23 then 0 else if j = k ∧ a = y + 22 then 1000000 else if j = k ∧ a = y + 21 then 1000000 else if j = k ∧ a = y + 20 then c else mm_I M a j := by
  unfold md_snd
  simp only [mm_I_sI, and_comm]
theorem md_sds_sk (M : mm_M) (y b : Nat) (c : Int32) (n : Nat) : md_sk M (md_sds M y b c n) := by
  induction n with
  | zero => exact md_sk_rf M
  | succ n ih => exact ih
theorem md_sds_I (M : mm_M) (y b : Nat) (c : Int32) (n a j : Nat) : mm_I (md_sds M y b c n) a j = if b ≤ j ∧ j < b + n ∧ a = y + 23 then 0 else if b ≤ j ∧ j < b + n ∧ a = y + 22 then 1000000 else if b ≤ j ∧ j < b + n ∧ a = y + 21 then 1000000 else if b ≤ j ∧ j < b + n ∧ a = y + 20 then c else mm_I M a j := by
  induction n with
  | zero =>
    rw [if_neg (by omega), if_neg (by omega), if_neg (by omega), if_neg (by omega)]
    rfl
  | succ n ih =>
    show mm_I (md_snd (md_sds M y b c n) y (b + n) c) a j = _
    rw [md_snd_I, ih]
    repeat' split
    all_goals first | rfl | (exfalso; omega)
theorem md_sds_y (M : mm_M) (y b : Nat) (c : Int32) (n j : Nat) : mm_I (md_sds M y b c n) y j = mm_I M y j := by
  rw [md_sds_I, if_neg (by omega), if_neg (by omega), if_neg (by omega), if_neg (by omega)]
/-- the reference opens port P -/
def md_opn (M : mm_M) (y P T : Nat) (dd td : Int32) : mm_M := mm_sI (md_sds (mm_sI (mm_sI M (y + 14) P dd) (y + 15) P td) y (30 * P) td T) y 26 (nI (P + 1))

theorem k_X12_port {G : mm_G} {d : Nat} {Q : Option Value → mm_M → Prop} {M : mm_M} {y : Nat} (dd : Int32) {M0 : mm_M} (hM0 : M0 = mm_sI M y 0 0) (hY : mdl_ M0 y) (P T : Nat) (hP : mm_I M0 y 26 = nI P) (hP8 : P ≤ 8) (hT : mm_I M0 y 14 = nI T) (hT30 : T ≤ 30) (h2 : ¬ (1 ≤ dd ∧ dd ≤ 60) → Q (some (.int (-1))) (mm_sI (mm_sI M0 y 1 2) y 2 (-1))) (h3 : P = 8 → 1 ≤ dd → dd ≤ 60 → Q (some (.int (-1))) (mm_sI (mm_sI M0 y 1 3) y 2 (-1))) (h1 : P < 8 → 1 ≤ dd → dd ≤ 60 → Q (some (.int (nI P))) (mm_sI (mm_sI (md_opn M0 y P T dd (mm_I M0 y 27)) y 1 0) y 2 (-1))) : ma_ G jX12_port (d + 1) 0 0 [.ref y, .int dd] M Q := by
  refine ma_of [some (.ref y), some (.int dd), none] (by decide) rfl (Nat.le_of_ble_eq_true rfl) ?_
  have hY0 : mdl_ M y := by subst hM0; exact hY
  refine wa_aload_n dX12_port_0 rfl rfl ?_
  refine wa_iconst (v := 0) dX12_port_1 (by decide) ?_
  refine wa_put (q := (RX12, TX12, 50)) (ci := 12) (k := 0) dX12_port_2 rfl (by decide) wf_X12_123 rfl hY0.1 rfl ?_
  rw [show mm_put M y 0 (.int 0) = M0 from hM0.symm]
  have hA : ∀ k j, mm_I (md_sds (mm_sI (mm_sI M0 (y + 14) P dd) (y + 15) P (mm_I M0 y 27)) y (30 * P) (mm_I M0 y 27) k) y j = mm_I M0 y j := by
    intro k j
    rw [md_sds_y, mm_I_sI, if_neg (by omega), mm_I_sI, if_neg (by omega)]
  have fin : P < 8 → 1 ≤ dd → dd ≤ 60 → wa_ 0 G jX12_port (d + 1) 0 0 Q 0 0 (md_sds (mm_sI (mm_sI M0 (y + 14) P dd) (y + 15) P (mm_I M0 y 27)) y (30 * P) (mm_I M0 y 27) T) 88 [some (.ref y), some (.int dd), some (.int (nI T))] [] := by
    intro hP9 ha hb
    have hYA : mdl_ (md_sds (mm_sI (mm_sI M0 (y + 14) P dd) (y + 15) P (mm_I M0 y 27)) y (30 * P) (mm_I M0 y 27) T) y := md_sk_mdl (md_sds_sk _ _ _ _ _) hY
    refine wa_aload_n dX12_port_88 rfl rfl ?_
    refine wa_dup dX12_port_89 rfl ?_
    refine wa_getI (q := (RX12, TX12, 50)) (ci := 12) (k := 26) dX12_port_90 rfl (by decide) wf_X12_236 hYA.1 rfl ?_
    rw [hA, hP]
    refine wa_iconst (v := 1) dX12_port_93 (by decide) ?_
    refine wa_iadd dX12_port_94 ?_
    rw [show nI P + 1 = nI (P + 1) from nI_1 P]
    refine wa_put (q := (RX12, TX12, 50)) (ci := 12) (k := 26) dX12_port_95 rfl (by decide) wf_X12_236 rfl hYA.1 rfl ?_
    refine wa_aload_n dX12_port_98 rfl rfl ?_
    refine wa_aload_n dX12_port_99 rfl rfl ?_
    refine wa_getI (q := (RX12, TX12, 50)) (ci := 12) (k := 26) dX12_port_100 rfl (by decide) wf_X12_236 hYA.1 rfl ?_
    rw [show mm_I (mm_put (md_sds (mm_sI (mm_sI M0 (y + 14) P dd) (y + 15) P (mm_I M0 y 27)) y (30 * P) (mm_I M0 y 27) T) y 26 (.int (nI (P + 1)))) y 26 = nI (P + 1) from by show mm_I (mm_sI _ y 26 _) y 26 = _; rw [mm_I_sI, if_pos ⟨rfl, rfl⟩]]
    refine wa_iconst (v := 1) dX12_port_103 (by decide) ?_
    refine wa_isub dX12_port_104 ?_
    rw [nI_pred P]
    refine wa_callV (q := (RX12, TX12, 50)) (As := [.int (nI P)]) dX12_port_105 lk_X12_246 rfl rfl hYA.1 rfl rfl (Nat.le_of_ble_eq_true rfl) (Nat.le_of_eq (Nat.zero_add _)) (Nat.le_of_eq (Nat.zero_add _)) (k_X12_done (nI P) hYA ?_)
    exact wa_iret dX12_port_108 rfl (h1 hP9 ha hb)
  have loop : P < 8 → 1 ≤ dd → dd ≤ 60 → ∀ (n k : Nat), T - k = n → k ≤ T → wa_ 0 G jX12_port (d + 1) 0 0 Q 0 0 (md_sds (mm_sI (mm_sI M0 (y + 14) P dd) (y + 15) P (mm_I M0 y 27)) y (30 * P) (mm_I M0 y 27) k) 61 [some (.ref y), some (.int dd), some (.int (nI k))] [] := by
    intro hP9 ha hb n
    induction n with
    | zero =>
      intro k hn hk
      have hkT : k = T := by omega
      subst hkT
      have hYA : mdl_ (md_sds (mm_sI (mm_sI M0 (y + 14) P dd) (y + 15) P (mm_I M0 y 27)) y (30 * P) (mm_I M0 y 27) k) y := md_sk_mdl (md_sds_sk _ _ _ _ _) hY
      refine wa_iload_n dX12_port_61 rfl ?_
      refine wa_aload_n dX12_port_62 rfl rfl ?_
      refine wa_getI (q := (RX12, TX12, 50)) (ci := 12) (k := 14) dX12_port_63 rfl (by decide) wf_X12_201 hYA.1 rfl ?_
      rw [hA, hT]
      refine wa_icmp_ge (tgt := 88) dX12_port_66 (by decide) (fun hT66 => ?_) (fun hF66 => absurd (nI_le (Nat.le_refl k) (by omega)) hF66)
      exact fin hP9 ha hb
    | succ n ih =>
      intro k hn hk
      have hYA : mdl_ (md_sds (mm_sI (mm_sI M0 (y + 14) P dd) (y + 15) P (mm_I M0 y 27)) y (30 * P) (mm_I M0 y 27) k) y := md_sk_mdl (md_sds_sk _ _ _ _ _) hY
      refine wa_iload_n dX12_port_61 rfl ?_
      refine wa_aload_n dX12_port_62 rfl rfl ?_
      refine wa_getI (q := (RX12, TX12, 50)) (ci := 12) (k := 14) dX12_port_63 rfl (by decide) wf_X12_201 hYA.1 rfl ?_
      rw [hA, hT]
      refine wa_icmp_ge (tgt := 88) dX12_port_66 (by decide) (fun hT66 => absurd hT66 (nI_ge (by omega) (by omega))) (fun hF66 => ?_)
      refine wa_aload_n dX12_port_69 rfl rfl ?_
      refine wa_aload_n dX12_port_70 rfl rfl ?_
      refine wa_getI (q := (RX12, TX12, 50)) (ci := 12) (k := 26) dX12_port_71 rfl (by decide) wf_X12_236 hYA.1 rfl ?_
      rw [hA, hP]
      refine wa_iload_n dX12_port_74 rfl ?_
      refine wa_aload_n dX12_port_75 rfl rfl ?_
      refine wa_getI (q := (RX12, TX12, 50)) (ci := 12) (k := 27) dX12_port_76 rfl (by decide) wf_X12_239 hYA.1 rfl ?_
      rw [hA]
      refine wa_callV (q := (RX12, TX12, 50)) (As := [.int (nI P), .int (nI k), .int (mm_I M0 y 27)]) dX12_port_79 lk_X12_242 rfl rfl hYA.1 rfl rfl (Nat.le_of_ble_eq_true rfl) (Nat.le_of_eq (Nat.zero_add _)) (Nat.le_of_eq (Nat.zero_add _)) (k_X12_sends P k _ hYA hP9 (by omega) ?_)
      refine wa_iinc (v := nI (k + 1)) dX12_port_82 rfl (ni_i1 k) (by decide) rfl rfl ?_
      refine wa_goto (tgt := 61) dX12_port_85 (by decide) ?_
      exact ih (k + 1) (by omega) (by omega)
  refine wa_iload_n dX12_port_5 rfl ?_
  refine wa_iconst (v := 1) dX12_port_6 (by decide) ?_
  refine wa_bipush (v := 60) dX12_port_7 (by decide) ?_
  refine wa_callS (As := [.int dd, .int 1, .int 60]) dX12_port_9 lk_X12_229 rfl rfl (Nat.le_of_ble_eq_true rfl) (Nat.le_of_eq (Nat.zero_add _)) (Nat.le_of_eq (Nat.zero_add _)) (k_X12_in dd 1 60 (fun ha hb => ?_) (fun ha => ?_))
  · refine wa_if_ne (tgt := 21) dX12_port_12 (by decide) (fun _ => ?_) (fun h9 => absurd h9 (by decide))
    refine wa_aload_n dX12_port_21 rfl rfl ?_
    refine wa_getI (q := (RX12, TX12, 50)) (ci := 12) (k := 26) dX12_port_22 rfl (by decide) wf_X12_236 hY.1 rfl ?_
    rw [hP]
    refine wa_bipush (v := 8) dX12_port_25 (by decide) ?_
    refine wa_icmp_ne (tgt := 36) dX12_port_27 (by decide) (fun hT27 => ?_) (fun hF27 => ?_)
    · refine wa_aload_n dX12_port_36 rfl rfl ?_
      refine wa_getR (q := (RX12, TX12, 50)) (ci := 12) (k := 28) dX12_port_37 rfl (by decide) wf_X12_58 hY.1 rfl (md_r28 hY) ?_
      refine wa_aload_n dX12_port_40 rfl rfl ?_
      refine wa_getI (q := (RX12, TX12, 50)) (ci := 12) (k := 26) dX12_port_41 rfl (by decide) wf_X12_236 hY.1 rfl ?_
      rw [hP]
      refine wa_iload_n dX12_port_44 rfl ?_
      refine wa_iastN dX12_port_45 (md_s28 hY) (have h8 : P ≠ 8 := fun q => hT27 (by rw [q]; rfl); by omega) (by decide) ?_
      refine wa_aload_n dX12_port_46 rfl rfl ?_
      refine wa_getR (q := (RX12, TX12, 50)) (ci := 12) (k := 29) dX12_port_47 rfl (by decide) wf_X12_61 hY.1 rfl (md_r29 hY) ?_
      refine wa_aload_n dX12_port_50 rfl rfl ?_
      refine wa_getI (q := (RX12, TX12, 50)) (ci := 12) (k := 26) dX12_port_51 rfl (by decide) wf_X12_236 hY.1 rfl ?_
      rw [show mm_I (mm_sI M0 (y + 14) P dd) y 26 = nI P from by rw [mm_I_sI, if_neg (by omega)]; exact hP]
      refine wa_aload_n dX12_port_54 rfl rfl ?_
      refine wa_getI (q := (RX12, TX12, 50)) (ci := 12) (k := 27) dX12_port_55 rfl (by decide) wf_X12_239 hY.1 rfl ?_
      rw [show mm_I (mm_sI M0 (y + 14) P dd) y 27 = mm_I M0 y 27 from by rw [mm_I_sI, if_neg (by omega)]]
      refine wa_iastN dX12_port_58 (md_s29 hY) (have h8 : P ≠ 8 := fun q => hT27 (by rw [q]; rfl); by omega) (by decide) ?_
      refine wa_iconst (v := 0) dX12_port_59 (by decide) ?_
      refine wa_istore_n dX12_port_60 (by decide) rfl rfl ?_
      exact loop (have h8 : P ≠ 8 := fun q => hT27 (by rw [q]; rfl); by omega) ha hb T 0 rfl (by omega)
    · refine wa_aload_n dX12_port_30 rfl rfl ?_
      refine wa_iconst (v := 3) dX12_port_31 (by decide) ?_
      refine wa_callV (q := (RX12, TX12, 50)) (As := [.int 3]) dX12_port_32 lk_X12_233 rfl rfl hY.1 rfl rfl (Nat.le_of_ble_eq_true rfl) (Nat.le_of_eq (Nat.zero_add _)) (Nat.le_of_eq (Nat.zero_add _)) (k_X12_refused 3 hY ?_)
      exact wa_iret dX12_port_35 rfl (h3 ((nI_eq (by omega) (by decide)).mp (hF27 : nI P = nI 8)) ha hb)
  · refine wa_if_ne (tgt := 21) dX12_port_12 (by decide) (fun h9 => absurd h9 (by decide)) (fun _ => ?_)
    refine wa_aload_n dX12_port_15 rfl rfl ?_
    refine wa_iconst (v := 2) dX12_port_16 (by decide) ?_
    refine wa_callV (q := (RX12, TX12, 50)) (As := [.int 2]) dX12_port_17 lk_X12_233 rfl rfl hY.1 rfl rfl (Nat.le_of_ble_eq_true rfl) (Nat.le_of_eq (Nat.zero_add _)) (Nat.le_of_eq (Nat.zero_add _)) (k_X12_refused 2 hY ?_)
    exact wa_iret dX12_port_20 rfl (h2 ha)
