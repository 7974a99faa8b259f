theorem ix_of {x : Int32} {n : Nat} (h0 : ¬ x < 0) (h1 : ¬ nI n ≤ x) (hn : n < 2 ^ 31) : ∃ j : Nat, j < n ∧ x = nI j := by
  rcases pk_ix x hn with h | h | h
  · exact absurd h h0
  · exact absurd h h1
  · exact h

theorem k_X12_force {G : mm_G} {d : Nat} {Q : Option Value → mm_M → Prop} {M : mm_M} {y : Nat} (p : Int32) {M0 : mm_M} (hM0 : M0 = mm_sI M y 0 0) (hY : mdl_ M0 y) (P T : Nat) (hP : mm_I M0 y 26 = nI P) (hP8 : P ≤ 8) (hT : mm_I M0 y 14 = nI T) (hT30 : T ≤ 30) (h0 : p < 0 ∨ mm_I M0 y 26 ≤ p → Q (some (.int (-1))) M0) (h1 : ∀ q t : Nat, p = nI q → q < P → t ≤ T → (∀ j, j < t → md_com M0 y (30 * q + j) ≤ mm_I M0 y 27) → (t < T → mm_I M0 y 27 < md_com M0 y (30 * q + t)) → Q (some (.int (if t = 0 then -2 else nI t - 1))) M0) : ma_ G jX12_force (d + 3) 0 0 [.ref y, .int p] M Q := by
  refine ma_of [some (.ref y), some (.int p)] (by decide) rfl (Nat.le_of_ble_eq_true rfl) ?_
  have hY0 : mdl_ M y := by subst hM0; exact hY
  refine wa_aload_n dX12_force_0 rfl rfl ?_
  refine wa_iconst (v := 0) dX12_force_1 (by decide) ?_
  refine wa_put (q := (RX12, TX12, 50)) (ci := 12) (k := 0) dX12_force_2 rfl (by decide) wf_X12_123 rfl hY0.1 rfl ?_
  rw [show mm_put M y 0 (.int 0) = M0 from hM0.symm]
  refine wa_aload_n dX12_force_5 rfl rfl ?_
  refine wa_iload_n dX12_force_6 rfl ?_
  refine wa_callV (q := (RX12, TX12, 50)) (As := [.int p]) dX12_force_7 lk_X12_262 rfl rfl hY.1 rfl rfl (Nat.le_of_ble_eq_true rfl) (Nat.le_of_eq (Nat.zero_add _)) (Nat.le_of_eq (Nat.zero_add _)) (k_X12_isPort p hY (fun hA hB => ?_) (fun hA => ?_))
  · rw [hP] at hB
    obtain ⟨q, hq, rfl⟩ := ix_of hA hB (by omega)
    refine wa_if_eq (tgt := 21) dX12_force_10 (by decide) (fun h9 => absurd h9 (by decide)) (fun _ => ?_)
    refine wa_aload_n dX12_force_13 rfl rfl ?_
    refine wa_iload_n dX12_force_14 rfl ?_
    refine wa_callV (q := (RX12, TX12, 50)) (As := [.int (nI q)]) dX12_force_15 lk_X12_275 rfl rfl hY.1 rfl rfl (Nat.le_of_ble_eq_true rfl) (Nat.le_of_eq (Nat.zero_add _)) (Nat.le_of_eq (Nat.zero_add _)) (k_X12_forceOf q T hY (by omega) hT hT30 (fun t ha hb hc => ?_))
    refine wa_goto (tgt := 22) dX12_force_18 (by decide) ?_
    exact wa_iret dX12_force_22 rfl (h1 q t rfl hq ha hb hc)
  · refine wa_if_eq (tgt := 21) dX12_force_10 (by decide) (fun _ => ?_) (fun h9 => absurd h9 (by decide))
    refine wa_iconst (v := -1) dX12_force_21 (by decide) ?_
    exact wa_iret dX12_force_22 rfl (h0 hA)

theorem k_X12_came {G : mm_G} {d : Nat} {Q : Option Value → mm_M → Prop} {M : mm_M} {y : Nat} (p : Int32) (r : Int32) {M0 : mm_M} (hM0 : M0 = mm_sI M y 0 0) (hY : mdl_ M0 y) (P T : Nat) (hP : mm_I M0 y 26 = nI P) (hP8 : P ≤ 8) (hT : mm_I M0 y 14 = nI T) (hT30 : T ≤ 30) (hA0 : p < 0 ∨ mm_I M0 y 26 ≤ p → Q (some (.int (-1))) M0) (hB0 : r < 0 ∨ mm_I M0 y 14 ≤ r → Q (some (.int (-1))) M0) (h1 : ∀ q t : Nat, p = nI q → r = nI t → q < P → t < T → md_com M0 y (30 * q + t) ≤ mm_I M0 y 27 → Q (some (.int (md_com M0 y (30 * q + t)))) M0) (h2 : ∀ q t : Nat, p = nI q → r = nI t → q < P → t < T → mm_I M0 y 27 < md_com M0 y (30 * q + t) → Q (some (.int (-2))) M0) : ma_ G jX12_came (d + 2) 0 0 [.ref y, .int p, .int r] M Q := by
  refine ma_of [some (.ref y), some (.int p), some (.int r)] (by decide) rfl (Nat.le_of_ble_eq_true rfl) ?_
  have hY0 : mdl_ M y := by subst hM0; exact hY
  refine wa_aload_n dX12_came_0 rfl rfl ?_
  refine wa_iconst (v := 0) dX12_came_1 (by decide) ?_
  refine wa_put (q := (RX12, TX12, 50)) (ci := 12) (k := 0) dX12_came_2 rfl (by decide) wf_X12_123 rfl hY0.1 rfl ?_
  rw [show mm_put M y 0 (.int 0) = M0 from hM0.symm]
  refine wa_aload_n dX12_came_5 rfl rfl ?_
  refine wa_iload_n dX12_came_6 rfl ?_
  refine wa_callV (q := (RX12, TX12, 50)) (As := [.int p]) dX12_came_7 lk_X12_262 rfl rfl hY.1 rfl rfl (Nat.le_of_ble_eq_true rfl) (Nat.le_of_eq (Nat.zero_add _)) (Nat.le_of_eq (Nat.zero_add _)) (k_X12_isPort p hY (fun hA hB => ?_) (fun hA => ?_))
  · rw [hP] at hB
    obtain ⟨q, hq, rfl⟩ := ix_of hA hB (by omega)
    refine wa_if_eq (tgt := 21) dX12_came_10 (by decide) (fun h9 => absurd h9 (by decide)) (fun _ => ?_)
    refine wa_aload_n dX12_came_13 rfl rfl ?_
    refine wa_iload_n dX12_came_14 rfl ?_
    refine wa_callV (q := (RX12, TX12, 50)) (As := [.int r]) dX12_came_15 lk_X12_265 rfl rfl hY.1 rfl rfl (Nat.le_of_ble_eq_true rfl) (Nat.le_of_eq (Nat.zero_add _)) (Nat.le_of_eq (Nat.zero_add _)) (k_X12_isTariff r hY (fun hC hD => ?_) (fun hC => ?_))
    · rw [hT] at hD
      obtain ⟨t, ht, rfl⟩ := ix_of hC hD (by omega)
      refine wa_if_ne (tgt := 23) dX12_came_18 (by decide) (fun _ => ?_) (fun h9 => absurd h9 (by decide))
      refine wa_aload_n dX12_came_23 rfl rfl ?_
      refine wa_iload_n dX12_came_24 rfl ?_
      refine wa_iload_n dX12_came_25 rfl ?_
      refine wa_aload_n dX12_came_26 rfl rfl ?_
      refine wa_getI (q := (RX12, TX12, 50)) (ci := 12) (k := 27) dX12_came_27 rfl (by decide) wf_X12_239 hY.1 rfl ?_
      refine wa_callV (q := (RX12, TX12, 50)) (As := [.int (nI q), .int (nI t), .int (mm_I M0 y 27)]) dX12_came_30 lk_X12_268 rfl rfl hY.1 rfl rfl (Nat.le_of_ble_eq_true rfl) (Nat.le_of_eq (Nat.zero_add _)) (Nat.le_of_eq (Nat.zero_add _)) (k_X12_hasCome q t _ hY (by omega) (by omega) (fun hE => ?_) (fun hE => ?_))
      · refine wa_if_eq (tgt := 45) dX12_came_33 (by decide) (fun h9 => absurd h9 (by decide)) (fun _ => ?_)
        refine wa_aload_n dX12_came_36 rfl rfl ?_
        refine wa_iload_n dX12_came_37 rfl ?_
        refine wa_iload_n dX12_came_38 rfl ?_
        refine wa_callV (q := (RX12, TX12, 50)) (As := [.int (nI q), .int (nI t)]) dX12_came_39 lk_X12_259 rfl rfl hY.1 rfl rfl (Nat.le_of_ble_eq_true rfl) (Nat.le_of_eq (Nat.zero_add _)) (Nat.le_of_eq (Nat.zero_add _)) (k_X12_comes q t hY (by omega) (by omega) ?_)
        refine wa_goto (tgt := 47) dX12_came_42 (by decide) ?_
        exact wa_iret dX12_came_47 rfl (h1 q t rfl rfl hq ht hE)
      · refine wa_if_eq (tgt := 45) dX12_came_33 (by decide) (fun _ => ?_) (fun h9 => absurd h9 (by decide))
        refine wa_bipush (v := -2) dX12_came_45 (by decide) ?_
        exact wa_iret dX12_came_47 rfl (h2 q t rfl rfl hq ht hE)
    · refine wa_if_ne (tgt := 23) dX12_came_18 (by decide) (fun h9 => absurd h9 (by decide)) (fun _ => ?_)
      refine wa_iconst (v := -1) dX12_came_21 (by decide) ?_
      exact wa_iret dX12_came_22 rfl (by first | exact hB0 hC | exact hA0 hA)
  · refine wa_if_eq (tgt := 21) dX12_came_10 (by decide) (fun _ => ?_) (fun h9 => absurd h9 (by decide))
    refine wa_iconst (v := -1) dX12_came_21 (by decide) ?_
    exact wa_iret dX12_came_22 rfl (by first | exact hB0 hC | exact hA0 hA)

theorem k_X12_asked {G : mm_G} {d : Nat} {Q : Option Value → mm_M → Prop} {M : mm_M} {y : Nat} (p : Int32) (r : Int32) {M0 : mm_M} (hM0 : M0 = mm_sI M y 0 0) (hY : mdl_ M0 y) (P T : Nat) (hP : mm_I M0 y 26 = nI P) (hP8 : P ≤ 8) (hT : mm_I M0 y 14 = nI T) (hT30 : T ≤ 30) (hA0 : p < 0 ∨ mm_I M0 y 26 ≤ p → Q (some (.int (-1))) M0) (hB0 : r < 0 ∨ mm_I M0 y 14 ≤ r → Q (some (.int (-1))) M0) (h1 : ∀ q t : Nat, p = nI q → r = nI t → q < P → t < T → ¬ mm_I M0 (y + 22) (30 * q + t) = 1000000 → Q (some (.int 1)) M0) (h2 : ∀ q t : Nat, p = nI q → r = nI t → q < P → t < T → mm_I M0 (y + 22) (30 * q + t) = 1000000 → Q (some (.int 0)) M0) : ma_ G jX12_asked (d + 1) 0 0 [.ref y, .int p, .int r] M Q := by
  refine ma_of [some (.ref y), some (.int p), some (.int r)] (by decide) rfl (Nat.le_of_ble_eq_true rfl) ?_
  have hY0 : mdl_ M y := by subst hM0; exact hY
  refine wa_aload_n dX12_asked_0 rfl rfl ?_
  refine wa_iconst (v := 0) dX12_asked_1 (by decide) ?_
  refine wa_put (q := (RX12, TX12, 50)) (ci := 12) (k := 0) dX12_asked_2 rfl (by decide) wf_X12_123 rfl hY0.1 rfl ?_
  rw [show mm_put M y 0 (.int 0) = M0 from hM0.symm]
  refine wa_aload_n dX12_asked_5 rfl rfl ?_
  refine wa_iload_n dX12_asked_6 rfl ?_
  refine wa_callV (q := (RX12, TX12, 50)) (As := [.int p]) dX12_asked_7 lk_X12_262 rfl rfl hY.1 rfl rfl (Nat.le_of_ble_eq_true rfl) (Nat.le_of_eq (Nat.zero_add _)) (Nat.le_of_eq (Nat.zero_add _)) (k_X12_isPort p hY (fun hA hB => ?_) (fun hA => ?_))
  · rw [hP] at hB
    obtain ⟨q, hq, rfl⟩ := ix_of hA hB (by omega)
    refine wa_if_eq (tgt := 21) dX12_asked_10 (by decide) (fun h9 => absurd h9 (by decide)) (fun _ => ?_)
    refine wa_aload_n dX12_asked_13 rfl rfl ?_
    refine wa_iload_n dX12_asked_14 rfl ?_
    refine wa_callV (q := (RX12, TX12, 50)) (As := [.int r]) dX12_asked_15 lk_X12_265 rfl rfl hY.1 rfl rfl (Nat.le_of_ble_eq_true rfl) (Nat.le_of_eq (Nat.zero_add _)) (Nat.le_of_eq (Nat.zero_add _)) (k_X12_isTariff r hY (fun hC hD => ?_) (fun hC => ?_))
    · rw [hT] at hD
      obtain ⟨t, ht, rfl⟩ := ix_of hC hD (by omega)
      refine wa_if_ne (tgt := 23) dX12_asked_18 (by decide) (fun _ => ?_) (fun h9 => absurd h9 (by decide))
      refine wa_aload_n dX12_asked_23 rfl rfl ?_
      refine wa_getR (q := (RX12, TX12, 50)) (ci := 12) (k := 36) dX12_asked_24 rfl (by decide) wf_X12_82 hY.1 rfl (md_r36 hY) ?_
      refine wa_bipush (v := 30) dX12_asked_27 (by decide) ?_
      refine wa_iload_n dX12_asked_29 rfl ?_
      refine wa_imul dX12_asked_30 ?_
      refine wa_iload_n dX12_asked_31 rfl ?_
      refine wa_iadd dX12_asked_32 ?_
      rw [ix_30 q t]
      refine wa_ialdN dX12_asked_33 (md_s36 hY) (Or.inl rfl) (by omega) (by decide) ?_
      refine wa_ldc dX12_asked_34 wl_X12_249 ?_
      refine wa_icmp_ne (tgt := 43) dX12_asked_36 (by decide) (fun hT36 => ?_) (fun hF36 => ?_)
      · refine wa_iconst (v := 1) dX12_asked_43 (by decide) ?_
        exact wa_iret dX12_asked_44 rfl (h1 q t rfl rfl hq ht (by assumption))
      · refine wa_iconst (v := 0) dX12_asked_39 (by decide) ?_
        refine wa_goto (tgt := 44) dX12_asked_40 (by decide) ?_
        exact wa_iret dX12_asked_44 rfl (h2 q t rfl rfl hq ht (by assumption))
    · refine wa_if_ne (tgt := 23) dX12_asked_18 (by decide) (fun h9 => absurd h9 (by decide)) (fun _ => ?_)
      refine wa_iconst (v := -1) dX12_asked_21 (by decide) ?_
      exact wa_iret dX12_asked_22 rfl (by first | exact hB0 hC | exact hA0 hA)
  · refine wa_if_eq (tgt := 21) dX12_asked_10 (by decide) (fun _ => ?_) (fun h9 => absurd h9 (by decide))
    refine wa_iconst (v := -1) dX12_asked_21 (by decide) ?_
    exact wa_iret dX12_asked_22 rfl (by first | exact hB0 hC | exact hA0 hA)

theorem k_X12_lost {G : mm_G} {d : Nat} {Q : Option Value → mm_M → Prop} {M : mm_M} {y : Nat} (p : Int32) (r : Int32) {M0 : mm_M} (hM0 : M0 = mm_sI M y 0 0) (hY : mdl_ M0 y) (P T : Nat) (hP : mm_I M0 y 26 = nI P) (hP8 : P ≤ 8) (hT : mm_I M0 y 14 = nI T) (hT30 : T ≤ 30) (hA0 : p < 0 ∨ mm_I M0 y 26 ≤ p → Q (some (.int 0)) (mm_sI (mm_sI M0 y 1 1) y 2 (-1))) (hB0 : r < 0 ∨ mm_I M0 y 14 ≤ r → Q (some (.int 0)) (mm_sI (mm_sI M0 y 1 1) y 2 (-1))) (h7 : ∀ q t : Nat, p = nI q → r = nI t → q < P → t < T → (¬ mm_I M0 (y + 23) (30 * q + t) = 0 ∨ md_com M0 y (30 * q + t) ≤ mm_I M0 y 27) → Q (some (.int 0)) (mm_sI (mm_sI M0 y 1 7) y 2 (-1))) (h1 : ∀ q t : Nat, p = nI q → r = nI t → q < P → t < T → mm_I M0 (y + 23) (30 * q + t) = 0 → mm_I M0 y 27 < md_com M0 y (30 * q + t) → Q (some (.int 1)) (mm_sI (mm_sI (mm_sI M0 y 1 0) y 2 (-1)) (y + 23) (30 * q + t) 1)) : ma_ G jX12_lost (d + 2) 0 0 [.ref y, .int p, .int r] M Q := by
  refine ma_of [some (.ref y), some (.int p), some (.int r), none, none] (by decide) rfl (Nat.le_of_ble_eq_true rfl) ?_
  have hY0 : mdl_ M y := by subst hM0; exact hY
  refine wa_aload_n dX12_lost_0 rfl rfl ?_
  refine wa_iconst (v := 0) dX12_lost_1 (by decide) ?_
  refine wa_put (q := (RX12, TX12, 50)) (ci := 12) (k := 0) dX12_lost_2 rfl (by decide) wf_X12_123 rfl hY0.1 rfl ?_
  rw [show mm_put M y 0 (.int 0) = M0 from hM0.symm]
  refine wa_aload_n dX12_lost_5 rfl rfl ?_
  refine wa_iload_n dX12_lost_6 rfl ?_
  refine wa_callV (q := (RX12, TX12, 50)) (As := [.int p]) dX12_lost_7 lk_X12_262 rfl rfl hY.1 rfl rfl (Nat.le_of_ble_eq_true rfl) (Nat.le_of_eq (Nat.zero_add _)) (Nat.le_of_eq (Nat.zero_add _)) (k_X12_isPort p hY (fun hA hB => ?_) (fun hA => ?_))
  · rw [hP] at hB
    obtain ⟨q, hq, rfl⟩ := ix_of hA hB (by omega)
    refine wa_if_eq (tgt := 25) dX12_lost_10 (by decide) (fun h9 => absurd h9 (by decide)) (fun _ => ?_)
    refine wa_aload_n dX12_lost_13 rfl rfl ?_
    refine wa_iload_n dX12_lost_14 rfl ?_
    refine wa_callV (q := (RX12, TX12, 50)) (As := [.int r]) dX12_lost_15 lk_X12_265 rfl rfl hY.1 rfl rfl (Nat.le_of_ble_eq_true rfl) (Nat.le_of_eq (Nat.zero_add _)) (Nat.le_of_eq (Nat.zero_add _)) (k_X12_isTariff r hY (fun hC hD => ?_) (fun hC => ?_))
    · rw [hT] at hD
      obtain ⟨t, ht, rfl⟩ := ix_of hC hD (by omega)
      refine wa_if_eq (tgt := 25) dX12_lost_18 (by decide) (fun h9 => absurd h9 (by decide)) (fun _ => ?_)
      refine wa_iconst (v := 1) dX12_lost_21 (by decide) ?_
      refine wa_goto (tgt := 26) dX12_lost_22 (by decide) ?_
      refine wa_istore_n dX12_lost_26 (by decide) rfl rfl ?_
      refine wa_iload_n dX12_lost_27 rfl ?_
      refine wa_if_eq (tgt := 62) dX12_lost_28 (by decide) (fun h9 => absurd h9 (by decide)) (fun _ => ?_)
      refine wa_aload_n dX12_lost_31 rfl rfl ?_
      refine wa_getR (q := (RX12, TX12, 50)) (ci := 12) (k := 37) dX12_lost_32 rfl (by decide) wf_X12_85 hY.1 rfl (md_r37 hY) ?_
      refine wa_bipush (v := 30) dX12_lost_35 (by decide) ?_
      refine wa_iload_n dX12_lost_37 rfl ?_
      refine wa_imul dX12_lost_38 ?_
      refine wa_iload_n dX12_lost_39 rfl ?_
      refine wa_iadd dX12_lost_40 ?_
      rw [ix_30 q t]
      refine wa_baldN dX12_lost_41 (md_s37 hY) (Or.inr rfl) (by omega) (by decide) ?_
      refine wa_if_ne (tgt := 62) dX12_lost_42 (by decide) (fun hT42 => ?_) (fun hF42 => ?_)
      · refine wa_iconst (v := 0) dX12_lost_62 (by decide) ?_
        refine wa_istore dX12_lost_63 (by decide) rfl rfl ?_
        refine wa_aload_n dX12_lost_65 rfl rfl ?_
        refine wa_iload_n dX12_lost_66 rfl ?_
        refine wa_if_ne (tgt := 74) dX12_lost_67 (by decide) (fun _ => ?_) (fun h9 => absurd h9 (by decide))
        refine wa_iload dX12_lost_74 rfl ?_
        refine wa_if_eq (tgt := 83) dX12_lost_76 (by decide) (fun _ => ?_) (fun h9 => absurd h9 (by decide))
        refine wa_bipush (v := 7) dX12_lost_83 (by decide) ?_
        refine wa_put (q := (RX12, TX12, 50)) (ci := 12) (k := 1) dX12_lost_85 rfl (by decide) wf_X12_126 rfl hY.1 rfl ?_
        refine wa_aload_n dX12_lost_88 rfl rfl ?_
        refine wa_iconst (v := -1) dX12_lost_89 (by decide) ?_
        refine wa_put (q := (RX12, TX12, 50)) (ci := 12) (k := 2) dX12_lost_90 rfl (by decide) wf_X12_9 rfl hY.1 rfl ?_
        refine wa_iload dX12_lost_93 rfl ?_
        refine wa_if_eq (tgt := 110) dX12_lost_95 (by decide) (fun _ => ?_) (fun h9 => absurd h9 (by decide))
        refine wa_iload dX12_lost_110 rfl ?_
        exact wa_zret dX12_lost_112 rfl rfl (by first | exact h7 q t rfl rfl hq ht (Or.inr hE) | exact h7 q t rfl rfl hq ht (Or.inl (by assumption)) | exact hB0 hC | exact hA0 hA)
      · refine wa_aload_n dX12_lost_45 rfl rfl ?_
        refine wa_iload_n dX12_lost_46 rfl ?_
        refine wa_iload_n dX12_lost_47 rfl ?_
        refine wa_aload_n dX12_lost_48 rfl rfl ?_
        refine wa_getI (q := (RX12, TX12, 50)) (ci := 12) (k := 27) dX12_lost_49 rfl (by decide) wf_X12_239 hY.1 rfl ?_
        refine wa_callV (q := (RX12, TX12, 50)) (As := [.int (nI q), .int (nI t), .int (mm_I M0 y 27)]) dX12_lost_52 lk_X12_268 rfl rfl hY.1 rfl rfl (Nat.le_of_ble_eq_true rfl) (Nat.le_of_eq (Nat.zero_add _)) (Nat.le_of_eq (Nat.zero_add _)) (k_X12_hasCome q t _ hY (by omega) (by omega) (fun hE => ?_) (fun hE => ?_))
        · refine wa_if_ne (tgt := 62) dX12_lost_55 (by decide) (fun _ => ?_) (fun h9 => absurd h9 (by decide))
          refine wa_iconst (v := 0) dX12_lost_62 (by decide) ?_
          refine wa_istore dX12_lost_63 (by decide) rfl rfl ?_
          refine wa_aload_n dX12_lost_65 rfl rfl ?_
          refine wa_iload_n dX12_lost_66 rfl ?_
          refine wa_if_ne (tgt := 74) dX12_lost_67 (by decide) (fun _ => ?_) (fun h9 => absurd h9 (by decide))
          refine wa_iload dX12_lost_74 rfl ?_
          refine wa_if_eq (tgt := 83) dX12_lost_76 (by decide) (fun _ => ?_) (fun h9 => absurd h9 (by decide))
          refine wa_bipush (v := 7) dX12_lost_83 (by decide) ?_
          refine wa_put (q := (RX12, TX12, 50)) (ci := 12) (k := 1) dX12_lost_85 rfl (by decide) wf_X12_126 rfl hY.1 rfl ?_
          refine wa_aload_n dX12_lost_88 rfl rfl ?_
          refine wa_iconst (v := -1) dX12_lost_89 (by decide) ?_
          refine wa_put (q := (RX12, TX12, 50)) (ci := 12) (k := 2) dX12_lost_90 rfl (by decide) wf_X12_9 rfl hY.1 rfl ?_
          refine wa_iload dX12_lost_93 rfl ?_
          refine wa_if_eq (tgt := 110) dX12_lost_95 (by decide) (fun _ => ?_) (fun h9 => absurd h9 (by decide))
          refine wa_iload dX12_lost_110 rfl ?_
          exact wa_zret dX12_lost_112 rfl rfl (by first | exact h7 q t rfl rfl hq ht (Or.inr hE) | exact h7 q t rfl rfl hq ht (Or.inl (by assumption)) | exact hB0 hC | exact hA0 hA)
        · refine wa_if_ne (tgt := 62) dX12_lost_55 (by decide) (fun h9 => absurd h9 (by decide)) (fun _ => ?_)
          refine wa_iconst (v := 1) dX12_lost_58 (by decide) ?_
          refine wa_goto (tgt := 63) dX12_lost_59 (by decide) ?_
          refine wa_istore dX12_lost_63 (by decide) rfl rfl ?_
          refine wa_aload_n dX12_lost_65 rfl rfl ?_
          refine wa_iload_n dX12_lost_66 rfl ?_
          refine wa_if_ne (tgt := 74) dX12_lost_67 (by decide) (fun _ => ?_) (fun h9 => absurd h9 (by decide))
          refine wa_iload dX12_lost_74 rfl ?_
          refine wa_if_eq (tgt := 83) dX12_lost_76 (by decide) (fun h9 => absurd h9 (by decide)) (fun _ => ?_)
          refine wa_iconst (v := 0) dX12_lost_79 (by decide) ?_
          refine wa_goto (tgt := 85) dX12_lost_80 (by decide) ?_
          refine wa_put (q := (RX12, TX12, 50)) (ci := 12) (k := 1) dX12_lost_85 rfl (by decide) wf_X12_126 rfl hY.1 rfl ?_
          refine wa_aload_n dX12_lost_88 rfl rfl ?_
          refine wa_iconst (v := -1) dX12_lost_89 (by decide) ?_
          refine wa_put (q := (RX12, TX12, 50)) (ci := 12) (k := 2) dX12_lost_90 rfl (by decide) wf_X12_9 rfl hY.1 rfl ?_
          refine wa_iload dX12_lost_93 rfl ?_
          refine wa_if_eq (tgt := 110) dX12_lost_95 (by decide) (fun h9 => absurd h9 (by decide)) (fun _ => ?_)
          refine wa_aload_n dX12_lost_98 rfl rfl ?_
          refine wa_getR (q := (RX12, TX12, 50)) (ci := 12) (k := 37) dX12_lost_99 rfl (by decide) wf_X12_85 hY.1 rfl (md_r37 hY) ?_
          refine wa_bipush (v := 30) dX12_lost_102 (by decide) ?_
          refine wa_iload_n dX12_lost_104 rfl ?_
          refine wa_imul dX12_lost_105 ?_
          refine wa_iload_n dX12_lost_106 rfl ?_
          refine wa_iadd dX12_lost_107 ?_
          rw [ix_30 q t]
          refine wa_iconst (v := 1) dX12_lost_108 (by decide) ?_
          refine wa_zastN dX12_lost_109 (md_s37 hY) (by omega) (by decide) (by decide) ?_
          refine wa_iload dX12_lost_110 rfl ?_
          exact wa_zret dX12_lost_112 rfl rfl (h1 q t rfl rfl hq ht (by assumption) hE)
    · refine wa_if_eq (tgt := 25) dX12_lost_18 (by decide) (fun _ => ?_) (fun h9 => absurd h9 (by decide))
      refine wa_iconst (v := 0) dX12_lost_25 (by decide) ?_
      refine wa_istore_n dX12_lost_26 (by decide) rfl rfl ?_
      refine wa_iload_n dX12_lost_27 rfl ?_
      refine wa_if_eq (tgt := 62) dX12_lost_28 (by decide) (fun _ => ?_) (fun h9 => absurd h9 (by decide))
      refine wa_iconst (v := 0) dX12_lost_62 (by decide) ?_
      refine wa_istore dX12_lost_63 (by decide) rfl rfl ?_
      refine wa_aload_n dX12_lost_65 rfl rfl ?_
      refine wa_iload_n dX12_lost_66 rfl ?_
      refine wa_if_ne (tgt := 74) dX12_lost_67 (by decide) (fun h9 => absurd h9 (by decide)) (fun _ => ?_)
      refine wa_iconst (v := 1) dX12_lost_70 (by decide) ?_
      refine wa_goto (tgt := 85) dX12_lost_71 (by decide) ?_
      refine wa_put (q := (RX12, TX12, 50)) (ci := 12) (k := 1) dX12_lost_85 rfl (by decide) wf_X12_126 rfl hY.1 rfl ?_
      refine wa_aload_n dX12_lost_88 rfl rfl ?_
      refine wa_iconst (v := -1) dX12_lost_89 (by decide) ?_
      refine wa_put (q := (RX12, TX12, 50)) (ci := 12) (k := 2) dX12_lost_90 rfl (by decide) wf_X12_9 rfl hY.1 rfl ?_
      refine wa_iload dX12_lost_93 rfl ?_
      refine wa_if_eq (tgt := 110) dX12_lost_95 (by decide) (fun _ => ?_) (fun h9 => absurd h9 (by decide))
      refine wa_iload dX12_lost_110 rfl ?_
      exact wa_zret dX12_lost_112 rfl rfl (by first | exact h7 q t rfl rfl hq ht (Or.inr hE) | exact h7 q t rfl rfl hq ht (Or.inl (by assumption)) | exact hB0 hC | exact hA0 hA)
  · refine wa_if_eq (tgt := 25) dX12_lost_10 (by decide) (fun _ => ?_) (fun h9 => absurd h9 (by decide))
    refine wa_iconst (v := 0) dX12_lost_25 (by decide) ?_
    refine wa_istore_n dX12_lost_26 (by decide) rfl rfl ?_
    refine wa_iload_n dX12_lost_27 rfl ?_
    refine wa_if_eq (tgt := 62) dX12_lost_28 (by decide) (fun _ => ?_) (fun h9 => absurd h9 (by decide))
    refine wa_iconst (v := 0) dX12_lost_62 (by decide) ?_
    refine wa_istore dX12_lost_63 (by decide) rfl rfl ?_
    refine wa_aload_n dX12_lost_65 rfl rfl ?_
    refine wa_iload_n dX12_lost_66 rfl ?_
    refine wa_if_ne (tgt := 74) dX12_lost_67 (by decide) (fun h9 => absurd h9 (by decide)) (fun _ => ?_)
    refine wa_iconst (v := 1) dX12_lost_70 (by decide) ?_
    refine wa_goto (tgt := 85) dX12_lost_71 (by decide) ?_
    refine wa_put (q := (RX12, TX12, 50)) (ci := 12) (k := 1) dX12_lost_85 rfl (by decide) wf_X12_126 rfl hY.1 rfl ?_
    refine wa_aload_n dX12_lost_88 rfl rfl ?_
    refine wa_iconst (v := -1) dX12_lost_89 (by decide) ?_
    refine wa_put (q := (RX12, TX12, 50)) (ci := 12) (k := 2) dX12_lost_90 rfl (by decide) wf_X12_9 rfl hY.1 rfl ?_
    refine wa_iload dX12_lost_93 rfl ?_
    refine wa_if_eq (tgt := 110) dX12_lost_95 (by decide) (fun _ => ?_) (fun h9 => absurd h9 (by decide))
    refine wa_iload dX12_lost_110 rfl ?_
    exact wa_zret dX12_lost_112 rfl rfl (by first | exact h7 q t rfl rfl hq ht (Or.inr hE) | exact h7 q t rfl rfl hq ht (Or.inl (by assumption)) | exact hB0 hC | exact hA0 hA)

theorem k_X12_homeOf {G : mm_G} {d : Nat} {Q : Option Value → mm_M → Prop} {M : mm_M} {y : Nat} (i : Nat) (q : Nat) (hY : mdl_ M y) (hi : i < 200) (hpp : mm_I M (y + 24) i = nI q) (hq : q < 8) (hQ : Q (some (.int ((mm_I M (y + 28) i + 29) / 30 * 30 + mm_I M (y + 14) q))) M) : ma_ G jX12_homeOf d 0 0 [.ref y, .int (nI i)] M Q := by
  refine ma_of [some (.ref y), some (.int (nI i))] (by decide) rfl (Nat.le_of_ble_eq_true rfl) ?_
  refine wa_aload_n dX12_homeOf_0 rfl rfl ?_
  refine wa_getR (q := (RX12, TX12, 50)) (ci := 12) (k := 43) dX12_homeOf_1 rfl (by decide) wf_X12_101 hY.1 rfl (md_r43 hY) ?_
  refine wa_iload_n dX12_homeOf_4 rfl ?_
  refine wa_ialdN dX12_homeOf_5 (md_s43 hY) (Or.inl rfl) (by omega) (by decide) ?_
  refine wa_bipush (v := 29) dX12_homeOf_6 (by decide) ?_
  refine wa_iadd dX12_homeOf_8 ?_
  refine wa_bipush (v := 30) dX12_homeOf_9 (by decide) ?_
  refine wa_idiv dX12_homeOf_11 (by decide) ?_
  refine wa_bipush (v := 30) dX12_homeOf_12 (by decide) ?_
  refine wa_imul dX12_homeOf_14 ?_
  refine wa_aload_n dX12_homeOf_15 rfl rfl ?_
  refine wa_getR (q := (RX12, TX12, 50)) (ci := 12) (k := 28) dX12_homeOf_16 rfl (by decide) wf_X12_58 hY.1 rfl (md_r28 hY) ?_
  refine wa_aload_n dX12_homeOf_19 rfl rfl ?_
  refine wa_getR (q := (RX12, TX12, 50)) (ci := 12) (k := 39) dX12_homeOf_20 rfl (by decide) wf_X12_89 hY.1 rfl (md_r39 hY) ?_
  refine wa_iload_n dX12_homeOf_23 rfl ?_
  refine wa_ialdN dX12_homeOf_24 (md_s39 hY) (Or.inl rfl) (by omega) (by decide) ?_
  rw [hpp]
  refine wa_ialdN dX12_homeOf_25 (md_s28 hY) (Or.inl rfl) (by omega) (by decide) ?_
  refine wa_iadd dX12_homeOf_26 ?_
  exact wa_iret dX12_homeOf_27 rfl (hQ)
