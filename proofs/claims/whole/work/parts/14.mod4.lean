theorem sw_of (x : Int32) (n : Nat) (hn : n < 2 ^ 30) : (∃ j : Nat, j ≤ n ∧ x = nI j) ∨ (x.toInt < 0 ∨ (n : Int) < x.toInt) := by
  rcases pk_ix x (n := n + 1) (by omega) with h | h | ⟨j, h, e⟩
  · exact Or.inr (Or.inl (by simpa using Int32.lt_iff_toInt_lt.mp h))
  · refine Or.inr (Or.inr ?_)
    have h1 := Int32.le_iff_toInt_le.mp h
    rw [nI_toInt (by omega)] at h1
    omega
  · exact Or.inl ⟨j, by omega, e⟩
theorem ix_5 (p t : Nat) : (5 : Int32) * nI p + nI t = nI (5 * p + t) := ni_lin 5 p t
theorem ix_in {x M : Int32} {n : Nat} (hM : M.toInt = n) (h0 : 0 ≤ x) (h1 : x ≤ M) : ∃ j : Nat, j ≤ n ∧ x = nI j := nI_of2 hM (Int32.not_lt.mpr h0) h1

theorem k_X12_isPaper {G : mm_G} {d : Nat} {Q : Option Value → mm_M → Prop} {M : mm_M} (k : Int32) (v : Int32) (s : Int32) (h1 : 0 ≤ k → k ≤ 9 → 0 ≤ v → v ≤ 9999 → 1 ≤ s → s ≤ 99 → Q (some (.int 1)) M) (h0 : ¬ (0 ≤ k ∧ k ≤ 9 ∧ 0 ≤ v ∧ v ≤ 9999 ∧ 1 ≤ s ∧ s ≤ 99) → Q (some (.int 0)) M) : ma_ G jX12_isPaper (d + 1) 0 0 [.int k, .int v, .int s] M Q := by
  refine ma_of [some (.int k), some (.int v), some (.int s)] (by decide) rfl (Nat.le_of_ble_eq_true rfl) ?_
  refine wa_iload_n dX12_isPaper_0 rfl ?_
  refine wa_iconst (v := 0) dX12_isPaper_1 (by decide) ?_
  refine wa_bipush (v := 9) dX12_isPaper_2 (by decide) ?_
  refine wa_callS (As := [.int k, .int 0, .int 9]) dX12_isPaper_4 lk_X12_229 rfl rfl (Nat.le_of_ble_eq_true rfl) (Nat.le_of_eq (Nat.zero_add _)) (Nat.le_of_eq (Nat.zero_add _)) (k_X12_in k 0 9 (fun ha hb => ?_) (fun ha => ?_))
  · refine wa_if_eq (tgt := 35) dX12_isPaper_7 (by decide) (fun h9 => absurd h9 (by decide)) (fun _ => ?_)
    refine wa_iload_n dX12_isPaper_10 rfl ?_
    refine wa_iconst (v := 0) dX12_isPaper_11 (by decide) ?_
    refine wa_sipush (v := 9999) dX12_isPaper_12 (by decide) ?_
    refine wa_callS (As := [.int v, .int 0, .int 9999]) dX12_isPaper_15 lk_X12_229 rfl rfl (Nat.le_of_ble_eq_true rfl) (Nat.le_of_eq (Nat.zero_add _)) (Nat.le_of_eq (Nat.zero_add _)) (k_X12_in v 0 9999 (fun hc hd => ?_) (fun hc => ?_))
    · refine wa_if_eq (tgt := 35) dX12_isPaper_18 (by decide) (fun h9 => absurd h9 (by decide)) (fun _ => ?_)
      refine wa_iload_n dX12_isPaper_21 rfl ?_
      refine wa_iconst (v := 1) dX12_isPaper_22 (by decide) ?_
      refine wa_bipush (v := 99) dX12_isPaper_23 (by decide) ?_
      refine wa_callS (As := [.int s, .int 1, .int 99]) dX12_isPaper_25 lk_X12_229 rfl rfl (Nat.le_of_ble_eq_true rfl) (Nat.le_of_eq (Nat.zero_add _)) (Nat.le_of_eq (Nat.zero_add _)) (k_X12_in s 1 99 (fun he hf => ?_) (fun he => ?_))
      · refine wa_if_eq (tgt := 35) dX12_isPaper_28 (by decide) (fun h9 => absurd h9 (by decide)) (fun _ => ?_)
        refine wa_iconst (v := 1) dX12_isPaper_31 (by decide) ?_
        refine wa_goto (tgt := 36) dX12_isPaper_32 (by decide) ?_
        exact wa_zret dX12_isPaper_36 rfl rfl (h1 ha hb hc hd he hf)
      · refine wa_if_eq (tgt := 35) dX12_isPaper_28 (by decide) (fun _ => ?_) (fun h9 => absurd h9 (by decide))
        refine wa_iconst (v := 0) dX12_isPaper_35 (by decide) ?_
        exact wa_zret dX12_isPaper_36 rfl rfl (h0 (fun q => by first | exact he ⟨q.2.2.2.2.1, q.2.2.2.2.2⟩ | exact hc ⟨q.2.2.1, q.2.2.2.1⟩ | exact ha ⟨q.1, q.2.1⟩))
    · refine wa_if_eq (tgt := 35) dX12_isPaper_18 (by decide) (fun _ => ?_) (fun h9 => absurd h9 (by decide))
      refine wa_iconst (v := 0) dX12_isPaper_35 (by decide) ?_
      exact wa_zret dX12_isPaper_36 rfl rfl (h0 (fun q => by first | exact he ⟨q.2.2.2.2.1, q.2.2.2.2.2⟩ | exact hc ⟨q.2.2.1, q.2.2.2.1⟩ | exact ha ⟨q.1, q.2.1⟩))
  · refine wa_if_eq (tgt := 35) dX12_isPaper_7 (by decide) (fun _ => ?_) (fun h9 => absurd h9 (by decide))
    refine wa_iconst (v := 0) dX12_isPaper_35 (by decide) ?_
    exact wa_zret dX12_isPaper_36 rfl rfl (h0 (fun q => by first | exact he ⟨q.2.2.2.2.1, q.2.2.2.2.2⟩ | exact hc ⟨q.2.2.1, q.2.2.2.1⟩ | exact ha ⟨q.1, q.2.1⟩))

theorem k_X12_count {G : mm_G} {d : Nat} {Q : Option Value → mm_M → Prop} {M : mm_M} {y : Nat} (w : Int32) {M0 : mm_M} (hM0 : M0 = mm_sI M y 0 0) (hY : mdl_ M0 y) (h0 : w = 0 → Q (some (.int (mm_I M0 y 26))) M0) (h1 : w = 1 → Q (some (.int (mm_I M0 y 14))) M0) (h2 : w = 2 → Q (some (.int (mm_I M0 y 38))) M0) (h3 : w = 3 → Q (some (.int (mm_I M0 y 27))) M0) (h4 : w = 4 → Q (some (.int (mm_I M0 y 6))) M0) (hN : w.toInt < 0 ∨ (4 : Nat) < w.toInt → Q (some (.int (-1))) M0) : ma_ G jX12_count d 0 0 [.ref y, .int w] M Q := by
  refine ma_of [some (.ref y), some (.int w)] (by decide) rfl (Nat.le_of_ble_eq_true rfl) ?_
  have hY0 : mdl_ M y := by subst hM0; exact hY
  refine wa_aload_n dX12_count_0 rfl rfl ?_
  refine wa_iconst (v := 0) dX12_count_1 (by decide) ?_
  refine wa_put (q := (RX12, TX12, 50)) (ci := 12) (k := 0) dX12_count_2 rfl (by decide) wf_X12_123 rfl hY0.1 rfl ?_
  rw [show mm_put M y 0 (.int 0) = M0 from hM0.symm]
  refine wa_iload_n dX12_count_5 rfl ?_
  rcases sw_of w 4 (by decide) with ⟨j_, hj_, rfl⟩ | hO6
  · rcases (by omega : j_ = 0 ∨ j_ = 1 ∨ j_ = 2 ∨ j_ = 3 ∨ j_ = 4) with rfl | rfl | rfl | rfl | rfl
    · refine wa_tableIn (off := 34) (tgt := 40) dX12_count_6 (by decide) (by decide) (by decide) (by decide) ?_
      refine wa_aload_n dX12_count_40 rfl rfl ?_
      refine wa_getI (q := (RX12, TX12, 50)) (ci := 12) (k := 26) dX12_count_41 rfl (by decide) wf_X12_236 hY.1 rfl ?_
      exact wa_iret dX12_count_44 rfl (h0 rfl)
    · refine wa_tableIn (off := 39) (tgt := 45) dX12_count_6 (by decide) (by decide) (by decide) (by decide) ?_
      refine wa_aload_n dX12_count_45 rfl rfl ?_
      refine wa_getI (q := (RX12, TX12, 50)) (ci := 12) (k := 14) dX12_count_46 rfl (by decide) wf_X12_201 hY.1 rfl ?_
      exact wa_iret dX12_count_49 rfl (h1 rfl)
    · refine wa_tableIn (off := 44) (tgt := 50) dX12_count_6 (by decide) (by decide) (by decide) (by decide) ?_
      refine wa_aload_n dX12_count_50 rfl rfl ?_
      refine wa_getI (q := (RX12, TX12, 50)) (ci := 12) (k := 38) dX12_count_51 rfl (by decide) wf_X12_313 hY.1 rfl ?_
      exact wa_iret dX12_count_54 rfl (h2 rfl)
    · refine wa_tableIn (off := 49) (tgt := 55) dX12_count_6 (by decide) (by decide) (by decide) (by decide) ?_
      refine wa_aload_n dX12_count_55 rfl rfl ?_
      refine wa_getI (q := (RX12, TX12, 50)) (ci := 12) (k := 27) dX12_count_56 rfl (by decide) wf_X12_239 hY.1 rfl ?_
      exact wa_iret dX12_count_59 rfl (h3 rfl)
    · refine wa_tableIn (off := 54) (tgt := 60) dX12_count_6 (by decide) (by decide) (by decide) (by decide) ?_
      refine wa_aload_n dX12_count_60 rfl rfl ?_
      refine wa_getI (q := (RX12, TX12, 50)) (ci := 12) (k := 6) dX12_count_61 rfl (by decide) wf_X12_250 hY.1 rfl ?_
      exact wa_iret dX12_count_64 rfl (h4 rfl)
  · refine wa_tableOut (tgt := 65) dX12_count_6 hO6 (by decide) ?_
    refine wa_iconst (v := -1) dX12_count_65 (by decide) ?_
    exact wa_iret dX12_count_66 rfl (hN hO6)

theorem k_X12_stock {G : mm_G} {d : Nat} {Q : Option Value → mm_M → Prop} {M : mm_M} {y : Nat} (p : Int32) (w : Int32) (n : Int32) {M0 : mm_M} (hM0 : M0 = mm_sI M y 0 0) (hY : mdl_ M0 y) (P : Nat) (hP : mm_I M0 y 26 = nI P) (hP8 : P ≤ 8) (hA0 : p < 0 ∨ mm_I M0 y 26 ≤ p → Q (some (.int (-1))) (mm_sI (mm_sI M0 y 1 1) y 2 (-1))) (hB0 : ¬ (0 ≤ w ∧ w ≤ 4) → Q (some (.int (-1))) (mm_sI (mm_sI M0 y 1 1) y 2 (-1))) (h2 : ∀ q r : Nat, p = nI q → q < P → w = nI r → r ≤ 4 → (n < 0 ∨ 10000 < n ∨ 10000 < mm_I M0 (y + 19) (5 * q + r) + n) → Q (some (.int (-1))) (mm_sI (mm_sI M0 y 1 2) y 2 (-1))) (h1 : ∀ q r : Nat, p = nI q → q < P → w = nI r → r ≤ 4 → ¬ n < 0 → ¬ 10000 < n → mm_I M0 (y + 19) (5 * q + r) + n ≤ 10000 → Q (some (.int (mm_I M0 (y + 19) (5 * q + r) + n))) (mm_sI (mm_sI (mm_sI M0 (y + 19) (5 * q + r) (mm_I M0 (y + 19) (5 * q + r) + n)) y 1 0) y 2 (-1))) : ma_ G jX12_stock (d + 1) 0 0 [.ref y, .int p, .int w, .int n] M Q := by
  refine ma_of [some (.ref y), some (.int p), some (.int w), some (.int n), none] (by decide) rfl (Nat.le_of_ble_eq_true rfl) ?_
  have hY0 : mdl_ M y := by subst hM0; exact hY
  refine wa_aload_n dX12_stock_0 rfl rfl ?_
  refine wa_iconst (v := 0) dX12_stock_1 (by decide) ?_
  refine wa_put (q := (RX12, TX12, 50)) (ci := 12) (k := 0) dX12_stock_2 rfl (by decide) wf_X12_123 rfl hY0.1 rfl ?_
  rw [show mm_put M y 0 (.int 0) = M0 from hM0.symm]
  refine wa_aload_n dX12_stock_5 rfl rfl ?_
  refine wa_iload_n dX12_stock_6 rfl ?_
  refine wa_callV (q := (RX12, TX12, 50)) (As := [.int p]) dX12_stock_7 lk_X12_262 rfl rfl hY.1 rfl rfl (Nat.le_of_ble_eq_true rfl) (Nat.le_of_eq (Nat.zero_add _)) (Nat.le_of_eq (Nat.zero_add _)) (k_X12_isPort p hY (fun hA hB => ?_) (fun hA => ?_))
  · rw [hP] at hB
    obtain ⟨q, hq, rfl⟩ := ix_of hA hB (by omega)
    refine wa_if_eq (tgt := 22) dX12_stock_10 (by decide) (fun h9 => absurd h9 (by decide)) (fun _ => ?_)
    refine wa_iload_n dX12_stock_13 rfl ?_
    refine wa_iconst (v := 0) dX12_stock_14 (by decide) ?_
    refine wa_iconst (v := 4) dX12_stock_15 (by decide) ?_
    refine wa_callS (As := [.int w, .int 0, .int 4]) dX12_stock_16 lk_X12_229 rfl rfl (Nat.le_of_ble_eq_true rfl) (Nat.le_of_eq (Nat.zero_add _)) (Nat.le_of_eq (Nat.zero_add _)) (k_X12_in w 0 4 (fun hC hD => ?_) (fun hC => ?_))
    · obtain ⟨r, hr, rfl⟩ := ix_in (n := 4) rfl hC hD
      refine wa_if_ne (tgt := 28) dX12_stock_19 (by decide) (fun _ => ?_) (fun h9 => absurd h9 (by decide))
      refine wa_iconst (v := 5) dX12_stock_28 (by decide) ?_
      refine wa_iload_n dX12_stock_29 rfl ?_
      refine wa_imul dX12_stock_30 ?_
      refine wa_iload_n dX12_stock_31 rfl ?_
      refine wa_iadd dX12_stock_32 ?_
      rw [ix_5 q r]
      refine wa_istore dX12_stock_33 (by decide) rfl rfl ?_
      refine wa_iload_n dX12_stock_35 rfl ?_
      refine wa_if_lt (tgt := 61) dX12_stock_36 (by decide) (fun hT36 => ?_) (fun hF36 => ?_)
      · refine wa_aload_n dX12_stock_61 rfl rfl ?_
        refine wa_iconst (v := 2) dX12_stock_62 (by decide) ?_
        refine wa_callV (q := (RX12, TX12, 50)) (As := [.int 2]) dX12_stock_63 lk_X12_233 rfl rfl hY.1 rfl rfl (Nat.le_of_ble_eq_true rfl) (Nat.le_of_eq (Nat.zero_add _)) (Nat.le_of_eq (Nat.zero_add _)) (k_X12_refused 2 hY ?_)
        exact wa_iret dX12_stock_66 rfl (h2 q r rfl hq rfl hr (by first | exact Or.inl (by assumption) | exact Or.inr (Or.inl (by assumption)) | exact Or.inr (Or.inr (Int32.not_le.mp (by assumption)))))
      · refine wa_iload_n dX12_stock_39 rfl ?_
        refine wa_sipush (v := 10000) dX12_stock_40 (by decide) ?_
        refine wa_icmp_gt (tgt := 61) dX12_stock_43 (by decide) (fun hT43 => ?_) (fun hF43 => ?_)
        · refine wa_aload_n dX12_stock_61 rfl rfl ?_
          refine wa_iconst (v := 2) dX12_stock_62 (by decide) ?_
          refine wa_callV (q := (RX12, TX12, 50)) (As := [.int 2]) dX12_stock_63 lk_X12_233 rfl rfl hY.1 rfl rfl (Nat.le_of_ble_eq_true rfl) (Nat.le_of_eq (Nat.zero_add _)) (Nat.le_of_eq (Nat.zero_add _)) (k_X12_refused 2 hY ?_)
          exact wa_iret dX12_stock_66 rfl (h2 q r rfl hq rfl hr (by first | exact Or.inl (by assumption) | exact Or.inr (Or.inl (by assumption)) | exact Or.inr (Or.inr (Int32.not_le.mp (by assumption)))))
        · refine wa_aload_n dX12_stock_46 rfl rfl ?_
          refine wa_getR (q := (RX12, TX12, 50)) (ci := 12) (k := 33) dX12_stock_47 rfl (by decide) wf_X12_73 hY.1 rfl (md_r33 hY) ?_
          refine wa_iload dX12_stock_50 rfl ?_
          refine wa_ialdN dX12_stock_52 (md_s33 hY) (Or.inl rfl) (by omega) (by decide) ?_
          refine wa_iload_n dX12_stock_53 rfl ?_
          refine wa_iadd dX12_stock_54 ?_
          refine wa_sipush (v := 10000) dX12_stock_55 (by decide) ?_
          refine wa_icmp_le (tgt := 67) dX12_stock_58 (by decide) (fun hT58 => ?_) (fun hF58 => ?_)
          · refine wa_aload_n dX12_stock_67 rfl rfl ?_
            refine wa_getR (q := (RX12, TX12, 50)) (ci := 12) (k := 33) dX12_stock_68 rfl (by decide) wf_X12_73 hY.1 rfl (md_r33 hY) ?_
            refine wa_iload dX12_stock_71 rfl ?_
            refine wa_dup2 dX12_stock_73 rfl rfl ?_
            refine wa_ialdN dX12_stock_74 (md_s33 hY) (Or.inl rfl) (by omega) (by decide) ?_
            refine wa_iload_n dX12_stock_75 rfl ?_
            refine wa_iadd dX12_stock_76 ?_
            refine wa_iastN dX12_stock_77 (md_s33 hY) (by omega) (by decide) ?_
            refine wa_aload_n dX12_stock_78 rfl rfl ?_
            refine wa_aload_n dX12_stock_79 rfl rfl ?_
            refine wa_getR (q := (RX12, TX12, 50)) (ci := 12) (k := 33) dX12_stock_80 rfl (by decide) wf_X12_73 hY.1 rfl (md_r33 hY) ?_
            refine wa_iload dX12_stock_83 rfl ?_
            refine wa_ialdN dX12_stock_85 (md_s33 hY) (Or.inl rfl) (by omega) (by decide) ?_
            rw [mm_I_sI, if_pos ⟨rfl, rfl⟩]
            refine wa_callV (q := (RX12, TX12, 50)) (As := [.int (mm_I M0 (y + 19) (5 * q + r) + n)]) dX12_stock_86 lk_X12_246 rfl rfl hY.1 rfl rfl (Nat.le_of_ble_eq_true rfl) (Nat.le_of_eq (Nat.zero_add _)) (Nat.le_of_eq (Nat.zero_add _)) (k_X12_done _ hY ?_)
            exact wa_iret dX12_stock_89 rfl (h1 q r rfl hq rfl hr (by assumption) (by assumption) (by assumption))
          · refine wa_aload_n dX12_stock_61 rfl rfl ?_
            refine wa_iconst (v := 2) dX12_stock_62 (by decide) ?_
            refine wa_callV (q := (RX12, TX12, 50)) (As := [.int 2]) dX12_stock_63 lk_X12_233 rfl rfl hY.1 rfl rfl (Nat.le_of_ble_eq_true rfl) (Nat.le_of_eq (Nat.zero_add _)) (Nat.le_of_eq (Nat.zero_add _)) (k_X12_refused 2 hY ?_)
            exact wa_iret dX12_stock_66 rfl (h2 q r rfl hq rfl hr (by first | exact Or.inl (by assumption) | exact Or.inr (Or.inl (by assumption)) | exact Or.inr (Or.inr (Int32.not_le.mp (by assumption)))))
    · refine wa_if_ne (tgt := 28) dX12_stock_19 (by decide) (fun h9 => absurd h9 (by decide)) (fun _ => ?_)
      refine wa_aload_n dX12_stock_22 rfl rfl ?_
      refine wa_iconst (v := 1) dX12_stock_23 (by decide) ?_
      refine wa_callV (q := (RX12, TX12, 50)) (As := [.int 1]) dX12_stock_24 lk_X12_233 rfl rfl hY.1 rfl rfl (Nat.le_of_ble_eq_true rfl) (Nat.le_of_eq (Nat.zero_add _)) (Nat.le_of_eq (Nat.zero_add _)) (k_X12_refused 1 hY ?_)
      exact wa_iret dX12_stock_27 rfl (by first | exact hB0 hC | exact hA0 hA)
  · refine wa_if_eq (tgt := 22) dX12_stock_10 (by decide) (fun _ => ?_) (fun h9 => absurd h9 (by decide))
    refine wa_aload_n dX12_stock_22 rfl rfl ?_
    refine wa_iconst (v := 1) dX12_stock_23 (by decide) ?_
    refine wa_callV (q := (RX12, TX12, 50)) (As := [.int 1]) dX12_stock_24 lk_X12_233 rfl rfl hY.1 rfl rfl (Nat.le_of_ble_eq_true rfl) (Nat.le_of_eq (Nat.zero_add _)) (Nat.le_of_eq (Nat.zero_add _)) (k_X12_refused 1 hY ?_)
    exact wa_iret dX12_stock_27 rfl (by first | exact hB0 hC | exact hA0 hA)

theorem k_X12_stamps {G : mm_G} {d : Nat} {Q : Option Value → mm_M → Prop} {M : mm_M} {y : Nat} (i : Int32) (w : Int32) {M0 : mm_M} (hM0 : M0 = mm_sI M y 0 0) (hY : mdl_ M0 y) (N : Nat) (hN : mm_I M0 y 38 = nI N) (hN2 : N ≤ 200) (h0 : (i < 0 ∨ mm_I M0 y 38 ≤ i ∨ ¬ (0 ≤ w ∧ w ≤ 4)) → Q (some (.int (-1))) M0) (h1 : ∀ q r : Nat, i = nI q → q < N → w = nI r → r ≤ 4 → Q (some (.int (mm_I M0 (y + 32) (5 * q + r)))) M0) : ma_ G jX12_stamps (d + 1) 0 0 [.ref y, .int i, .int w] M Q := by
  refine ma_of [some (.ref y), some (.int i), some (.int w)] (by decide) rfl (Nat.le_of_ble_eq_true rfl) ?_
  have hY0 : mdl_ M y := by subst hM0; exact hY
  refine wa_aload_n dX12_stamps_0 rfl rfl ?_
  refine wa_iconst (v := 0) dX12_stamps_1 (by decide) ?_
  refine wa_put (q := (RX12, TX12, 50)) (ci := 12) (k := 0) dX12_stamps_2 rfl (by decide) wf_X12_123 rfl hY0.1 rfl ?_
  rw [show mm_put M y 0 (.int 0) = M0 from hM0.symm]
  refine wa_iload_n dX12_stamps_5 rfl ?_
  refine wa_if_lt (tgt := 39) dX12_stamps_6 (by decide) (fun hT6 => ?_) (fun hF6 => ?_)
  · refine wa_iconst (v := -1) dX12_stamps_39 (by decide) ?_
    exact wa_iret dX12_stamps_40 rfl (h0 (by first | exact Or.inl (by assumption) | exact Or.inr (Or.inl (by assumption)) | exact Or.inr (Or.inr (by assumption))))
  · refine wa_iload_n dX12_stamps_9 rfl ?_
    refine wa_aload_n dX12_stamps_10 rfl rfl ?_
    refine wa_getI (q := (RX12, TX12, 50)) (ci := 12) (k := 38) dX12_stamps_11 rfl (by decide) wf_X12_313 hY.1 rfl ?_
    refine wa_icmp_ge (tgt := 39) dX12_stamps_14 (by decide) (fun hT14 => ?_) (fun hF14 => ?_)
    · refine wa_iconst (v := -1) dX12_stamps_39 (by decide) ?_
      exact wa_iret dX12_stamps_40 rfl (h0 (by first | exact Or.inl (by assumption) | exact Or.inr (Or.inl (by assumption)) | exact Or.inr (Or.inr (by assumption))))
    · refine wa_iload_n dX12_stamps_17 rfl ?_
      refine wa_iconst (v := 0) dX12_stamps_18 (by decide) ?_
      refine wa_iconst (v := 4) dX12_stamps_19 (by decide) ?_
      refine wa_callS (As := [.int w, .int 0, .int 4]) dX12_stamps_20 lk_X12_229 rfl rfl (Nat.le_of_ble_eq_true rfl) (Nat.le_of_eq (Nat.zero_add _)) (Nat.le_of_eq (Nat.zero_add _)) (k_X12_in w 0 4 (fun hC hD => ?_) (fun hC => ?_))
      · obtain ⟨r, hr, rfl⟩ := ix_in (n := 4) rfl hC hD
        rw [hN] at hF14
        obtain ⟨q, hq, rfl⟩ := ix_of hF6 hF14 (by omega)
        refine wa_if_eq (tgt := 39) dX12_stamps_23 (by decide) (fun h9 => absurd h9 (by decide)) (fun _ => ?_)
        refine wa_aload_n dX12_stamps_26 rfl rfl ?_
        refine wa_getR (q := (RX12, TX12, 50)) (ci := 12) (k := 47) dX12_stamps_27 rfl (by decide) wf_X12_113 hY.1 rfl (md_r47 hY) ?_
        refine wa_iconst (v := 5) dX12_stamps_30 (by decide) ?_
        refine wa_iload_n dX12_stamps_31 rfl ?_
        refine wa_imul dX12_stamps_32 ?_
        refine wa_iload_n dX12_stamps_33 rfl ?_
        refine wa_iadd dX12_stamps_34 ?_
        rw [ix_5 q r]
        refine wa_ialdN dX12_stamps_35 (md_s47 hY) (Or.inl rfl) (by omega) (by decide) ?_
        refine wa_goto (tgt := 40) dX12_stamps_36 (by decide) ?_
        exact wa_iret dX12_stamps_40 rfl (h1 q r rfl hq rfl hr)
      · refine wa_if_eq (tgt := 39) dX12_stamps_23 (by decide) (fun _ => ?_) (fun h9 => absurd h9 (by decide))
        refine wa_iconst (v := -1) dX12_stamps_39 (by decide) ?_
        exact wa_iret dX12_stamps_40 rfl (h0 (by first | exact Or.inl (by assumption) | exact Or.inr (Or.inl (by assumption)) | exact Or.inr (Or.inr (by assumption))))

theorem k_X12_about {G : mm_G} {d : Nat} {Q : Option Value → mm_M → Prop} {M : mm_M} {y : Nat} (p : Int32) (w : Int32) {M0 : mm_M} (hM0 : M0 = mm_sI M y 0 0) (hY : mdl_ M0 y) (P : Nat) (hP : mm_I M0 y 26 = nI P) (hP8 : P ≤ 8) (hA0 : p < 0 ∨ mm_I M0 y 26 ≤ p → Q (some (.int (-1))) M0) (h0 : ∀ q : Nat, p = nI q → q < P → w = 0 → Q (some (.int (mm_I M0 (y + 14) q))) M0) (h1 : ∀ q : Nat, p = nI q → q < P → w = 1 → Q (some (.int (mm_I M0 (y + 16) q))) M0) (h2 : ∀ q : Nat, p = nI q → q < P → w = 2 → Q (some (.int (mm_I M0 (y + 17) q))) M0) (h3 : ∀ q : Nat, p = nI q → q < P → w = 3 → Q (some (.int (mm_I M0 (y + 18) q))) M0) (h4 : ∀ q r : Nat, p = nI q → q < P → r ≤ 4 → w = nI (r + 4) → Q (some (.int (mm_I M0 (y + 19) (5 * q + r)))) M0) (hN : ∀ q : Nat, p = nI q → q < P → (w.toInt < 0 ∨ (8 : Nat) < w.toInt) → Q (some (.int (-1))) M0) : ma_ G jX12_about (d + 1) 0 0 [.ref y, .int p, .int w] M Q := by
  refine ma_of [some (.ref y), some (.int p), some (.int w)] (by decide) rfl (Nat.le_of_ble_eq_true rfl) ?_
  have hY0 : mdl_ M y := by subst hM0; exact hY
  refine wa_aload_n dX12_about_0 rfl rfl ?_
  refine wa_iconst (v := 0) dX12_about_1 (by decide) ?_
  refine wa_put (q := (RX12, TX12, 50)) (ci := 12) (k := 0) dX12_about_2 rfl (by decide) wf_X12_123 rfl hY0.1 rfl ?_
  rw [show mm_put M y 0 (.int 0) = M0 from hM0.symm]
  refine wa_aload_n dX12_about_5 rfl rfl ?_
  refine wa_iload_n dX12_about_6 rfl ?_
  refine wa_callV (q := (RX12, TX12, 50)) (As := [.int p]) dX12_about_7 lk_X12_262 rfl rfl hY.1 rfl rfl (Nat.le_of_ble_eq_true rfl) (Nat.le_of_eq (Nat.zero_add _)) (Nat.le_of_eq (Nat.zero_add _)) (k_X12_isPort p hY (fun hA hB => ?_) (fun hA => ?_))
  · rw [hP] at hB
    obtain ⟨q, hq, rfl⟩ := ix_of hA hB (by omega)
    refine wa_if_ne (tgt := 15) dX12_about_10 (by decide) (fun _ => ?_) (fun h9 => absurd h9 (by decide))
    refine wa_iload_n dX12_about_15 rfl ?_
    rcases sw_of w 8 (by decide) with ⟨j_, hj_, rfl⟩ | hO16
    · rcases (by omega : j_ = 0 ∨ j_ = 1 ∨ j_ = 2 ∨ j_ = 3 ∨ j_ = 4 ∨ j_ = 5 ∨ j_ = 6 ∨ j_ = 7 ∨ j_ = 8) with rfl | rfl | rfl | rfl | rfl | rfl | rfl | rfl | rfl
      · refine wa_tableIn (off := 52) (tgt := 68) dX12_about_16 (by decide) (by decide) (by decide) (by decide) ?_
        refine wa_aload_n dX12_about_68 rfl rfl ?_
        refine wa_getR (q := (RX12, TX12, 50)) (ci := 12) (k := 28) dX12_about_69 rfl (by decide) wf_X12_58 hY.1 rfl (md_r28 hY) ?_
        refine wa_iload_n dX12_about_72 rfl ?_
        refine wa_ialdN dX12_about_73 (md_s28 hY) (Or.inl rfl) (by omega) (by decide) ?_
        exact wa_iret dX12_about_74 rfl (h0 q rfl hq rfl)
      · refine wa_tableIn (off := 59) (tgt := 75) dX12_about_16 (by decide) (by decide) (by decide) (by decide) ?_
        refine wa_aload_n dX12_about_75 rfl rfl ?_
        refine wa_getR (q := (RX12, TX12, 50)) (ci := 12) (k := 30) dX12_about_76 rfl (by decide) wf_X12_64 hY.1 rfl (md_r30 hY) ?_
        refine wa_iload_n dX12_about_79 rfl ?_
        refine wa_ialdN dX12_about_80 (md_s30 hY) (Or.inl rfl) (by omega) (by decide) ?_
        exact wa_iret dX12_about_81 rfl (h1 q rfl hq rfl)
      · refine wa_tableIn (off := 66) (tgt := 82) dX12_about_16 (by decide) (by decide) (by decide) (by decide) ?_
        refine wa_aload_n dX12_about_82 rfl rfl ?_
        refine wa_getR (q := (RX12, TX12, 50)) (ci := 12) (k := 31) dX12_about_83 rfl (by decide) wf_X12_67 hY.1 rfl (md_r31 hY) ?_
        refine wa_iload_n dX12_about_86 rfl ?_
        refine wa_ialdN dX12_about_87 (md_s31 hY) (Or.inl rfl) (by omega) (by decide) ?_
        exact wa_iret dX12_about_88 rfl (h2 q rfl hq rfl)
      · refine wa_tableIn (off := 73) (tgt := 89) dX12_about_16 (by decide) (by decide) (by decide) (by decide) ?_
        refine wa_aload_n dX12_about_89 rfl rfl ?_
        refine wa_getR (q := (RX12, TX12, 50)) (ci := 12) (k := 32) dX12_about_90 rfl (by decide) wf_X12_70 hY.1 rfl (md_r32 hY) ?_
        refine wa_iload_n dX12_about_93 rfl ?_
        refine wa_ialdN dX12_about_94 (md_s32 hY) (Or.inl rfl) (by omega) (by decide) ?_
        exact wa_iret dX12_about_95 rfl (h3 q rfl hq rfl)
      · refine wa_tableIn (off := 80) (tgt := 96) dX12_about_16 (by decide) (by decide) (by decide) (by decide) ?_
        refine wa_aload_n dX12_about_96 rfl rfl ?_
        refine wa_getR (q := (RX12, TX12, 50)) (ci := 12) (k := 33) dX12_about_97 rfl (by decide) wf_X12_73 hY.1 rfl (md_r33 hY) ?_
        refine wa_iconst (v := 5) dX12_about_100 (by decide) ?_
        refine wa_iload_n dX12_about_101 rfl ?_
        refine wa_imul dX12_about_102 ?_
        refine wa_iload_n dX12_about_103 rfl ?_
        refine wa_iadd dX12_about_104 ?_
        refine wa_iconst (v := 4) dX12_about_105 (by decide) ?_
        refine wa_isub dX12_about_106 ?_
        rw [show (5 : Int32) * nI q + nI 4 - 4 = nI (5 * q + (4 - 4)) from by rw [ix_5, show (4 : Int32) = nI 4 from rfl, pk_sub (by omega)]; exact congrArg nI (by omega)]
        refine wa_ialdN dX12_about_107 (md_s33 hY) (Or.inl rfl) (by omega) (by decide) ?_
        exact wa_iret dX12_about_108 rfl (h4 q (4 - 4) rfl hq (by decide) rfl)
      · refine wa_tableIn (off := 80) (tgt := 96) dX12_about_16 (by decide) (by decide) (by decide) (by decide) ?_
        refine wa_aload_n dX12_about_96 rfl rfl ?_
        refine wa_getR (q := (RX12, TX12, 50)) (ci := 12) (k := 33) dX12_about_97 rfl (by decide) wf_X12_73 hY.1 rfl (md_r33 hY) ?_
        refine wa_iconst (v := 5) dX12_about_100 (by decide) ?_
        refine wa_iload_n dX12_about_101 rfl ?_
        refine wa_imul dX12_about_102 ?_
        refine wa_iload_n dX12_about_103 rfl ?_
        refine wa_iadd dX12_about_104 ?_
        refine wa_iconst (v := 4) dX12_about_105 (by decide) ?_
        refine wa_isub dX12_about_106 ?_
        rw [show (5 : Int32) * nI q + nI 5 - 4 = nI (5 * q + (5 - 4)) from by rw [ix_5, show (4 : Int32) = nI 4 from rfl, pk_sub (by omega)]; exact congrArg nI (by omega)]
        refine wa_ialdN dX12_about_107 (md_s33 hY) (Or.inl rfl) (by omega) (by decide) ?_
        exact wa_iret dX12_about_108 rfl (h4 q (5 - 4) rfl hq (by decide) rfl)
      · refine wa_tableIn (off := 80) (tgt := 96) dX12_about_16 (by decide) (by decide) (by decide) (by decide) ?_
        refine wa_aload_n dX12_about_96 rfl rfl ?_
        refine wa_getR (q := (RX12, TX12, 50)) (ci := 12) (k := 33) dX12_about_97 rfl (by decide) wf_X12_73 hY.1 rfl (md_r33 hY) ?_
        refine wa_iconst (v := 5) dX12_about_100 (by decide) ?_
        refine wa_iload_n dX12_about_101 rfl ?_
        refine wa_imul dX12_about_102 ?_
        refine wa_iload_n dX12_about_103 rfl ?_
        refine wa_iadd dX12_about_104 ?_
        refine wa_iconst (v := 4) dX12_about_105 (by decide) ?_
        refine wa_isub dX12_about_106 ?_
        rw [show (5 : Int32) * nI q + nI 6 - 4 = nI (5 * q + (6 - 4)) from by rw [ix_5, show (4 : Int32) = nI 4 from rfl, pk_sub (by omega)]; exact congrArg nI (by omega)]
        refine wa_ialdN dX12_about_107 (md_s33 hY) (Or.inl rfl) (by omega) (by decide) ?_
        exact wa_iret dX12_about_108 rfl (h4 q (6 - 4) rfl hq (by decide) rfl)
      · refine wa_tableIn (off := 80) (tgt := 96) dX12_about_16 (by decide) (by decide) (by decide) (by decide) ?_
        refine wa_aload_n dX12_about_96 rfl rfl ?_
        refine wa_getR (q := (RX12, TX12, 50)) (ci := 12) (k := 33) dX12_about_97 rfl (by decide) wf_X12_73 hY.1 rfl (md_r33 hY) ?_
        refine wa_iconst (v := 5) dX12_about_100 (by decide) ?_
        refine wa_iload_n dX12_about_101 rfl ?_
        refine wa_imul dX12_about_102 ?_
        refine wa_iload_n dX12_about_103 rfl ?_
        refine wa_iadd dX12_about_104 ?_
        refine wa_iconst (v := 4) dX12_about_105 (by decide) ?_
        refine wa_isub dX12_about_106 ?_
        rw [show (5 : Int32) * nI q + nI 7 - 4 = nI (5 * q + (7 - 4)) from by rw [ix_5, show (4 : Int32) = nI 4 from rfl, pk_sub (by omega)]; exact congrArg nI (by omega)]
        refine wa_ialdN dX12_about_107 (md_s33 hY) (Or.inl rfl) (by omega) (by decide) ?_
        exact wa_iret dX12_about_108 rfl (h4 q (7 - 4) rfl hq (by decide) rfl)
      · refine wa_tableIn (off := 80) (tgt := 96) dX12_about_16 (by decide) (by decide) (by decide) (by decide) ?_
        refine wa_aload_n dX12_about_96 rfl rfl ?_
        refine wa_getR (q := (RX12, TX12, 50)) (ci := 12) (k := 33) dX12_about_97 rfl (by decide) wf_X12_73 hY.1 rfl (md_r33 hY) ?_
        refine wa_iconst (v := 5) dX12_about_100 (by decide) ?_
        refine wa_iload_n dX12_about_101 rfl ?_
        refine wa_imul dX12_about_102 ?_
        refine wa_iload_n dX12_about_103 rfl ?_
        refine wa_iadd dX12_about_104 ?_
        refine wa_iconst (v := 4) dX12_about_105 (by decide) ?_
        refine wa_isub dX12_about_106 ?_
        rw [show (5 : Int32) * nI q + nI 8 - 4 = nI (5 * q + (8 - 4)) from by rw [ix_5, show (4 : Int32) = nI 4 from rfl, pk_sub (by omega)]; exact congrArg nI (by omega)]
        refine wa_ialdN dX12_about_107 (md_s33 hY) (Or.inl rfl) (by omega) (by decide) ?_
        exact wa_iret dX12_about_108 rfl (h4 q (8 - 4) rfl hq (by decide) rfl)
    · refine wa_tableOut (tgt := 109) dX12_about_16 hO16 (by decide) ?_
      refine wa_iconst (v := -1) dX12_about_109 (by decide) ?_
      exact wa_iret dX12_about_110 rfl (hN q rfl hq hO16)
  · refine wa_if_ne (tgt := 15) dX12_about_10 (by decide) (fun h9 => absurd h9 (by decide)) (fun _ => ?_)
    refine wa_iconst (v := -1) dX12_about_13 (by decide) ?_
    exact wa_iret dX12_about_14 rfl (hA0 hA)

def vo_ (n a b c e : Int32) : Int32 := if n = -1 then 1 else if n = 0 then a else if n = 1 then b else if n = 2 then c else e
theorem k_X12_valueOf {G : mm_G} {d : Nat} {Q : Option Value → mm_M → Prop} {M : mm_M} (n : Int32) (a : Int32) (b : Int32) (c : Int32) (e : Int32) (hQ : Q (some (.int (vo_ n a b c e))) M) : ma_ G jX12_valueOf d 0 0 [.int n, .int a, .int b, .int c, .int e] M Q := by
  refine ma_of [some (.int n), some (.int a), some (.int b), some (.int c), some (.int e)] (by decide) rfl (Nat.le_of_ble_eq_true rfl) ?_
  refine wa_iload_n dX12_valueOf_0 rfl ?_
  refine wa_iconst (v := -1) dX12_valueOf_1 (by decide) ?_
  refine wa_icmp_ne (tgt := 9) dX12_valueOf_2 (by decide) (fun hT2 => ?_) (fun hF2 => ?_)
  · refine wa_iload_n dX12_valueOf_9 rfl ?_
    refine wa_if_ne (tgt := 17) dX12_valueOf_10 (by decide) (fun hT10 => ?_) (fun hF10 => ?_)
    · refine wa_iload_n dX12_valueOf_17 rfl ?_
      refine wa_iconst (v := 1) dX12_valueOf_18 (by decide) ?_
      refine wa_icmp_ne (tgt := 26) dX12_valueOf_19 (by decide) (fun hT19 => ?_) (fun hF19 => ?_)
      · refine wa_iload_n dX12_valueOf_26 rfl ?_
        refine wa_iconst (v := 2) dX12_valueOf_27 (by decide) ?_
        refine wa_icmp_ne (tgt := 35) dX12_valueOf_28 (by decide) (fun hT28 => ?_) (fun hF28 => ?_)
        · refine wa_iload dX12_valueOf_35 rfl ?_
          exact wa_iret dX12_valueOf_37 rfl (by unfold vo_ at hQ; simp_all)
        · refine wa_iload_n dX12_valueOf_31 rfl ?_
          refine wa_goto (tgt := 37) dX12_valueOf_32 (by decide) ?_
          exact wa_iret dX12_valueOf_37 rfl (by unfold vo_ at hQ; simp_all)
      · refine wa_iload_n dX12_valueOf_22 rfl ?_
        refine wa_goto (tgt := 37) dX12_valueOf_23 (by decide) ?_
        exact wa_iret dX12_valueOf_37 rfl (by unfold vo_ at hQ; simp_all)
    · refine wa_iload_n dX12_valueOf_13 rfl ?_
      refine wa_goto (tgt := 37) dX12_valueOf_14 (by decide) ?_
      exact wa_iret dX12_valueOf_37 rfl (by unfold vo_ at hQ; simp_all)
  · refine wa_iconst (v := 1) dX12_valueOf_5 (by decide) ?_
    refine wa_goto (tgt := 37) dX12_valueOf_6 (by decide) ?_
    exact wa_iret dX12_valueOf_37 rfl (by unfold vo_ at hQ; simp_all)

theorem ma_ofF {G : mm_G} {J : mm_J} {d mc ms : Nat} {av : List Value} {M : mm_M} {Q : Option Value → mm_M → Prop} (lv : List (Option Value)) (hy : plainFor J.1 = true) (hlv : mm_pl lv = lv_args 0 av) (hlen : (lg_sl av).length ≤ J.2.2.1) (h : wa_ 0 G J d mc ms Q mc ms M 0 lv []) : ma_ G J d mc ms av M Q := by
  intro l
  refine va_MetF (cc := J.2.1) (maxL := J.2.2.1) (ret := J.2.2.2) hy rfl ?_
  intro p e s m args below meth c s₁ B hml hv
  obtain ⟨rfl, hok, hK, hZ, hsz⟩ := hv
  have hts := atoms_spec (ws := mm_ws J) B.pre
  have hl := lv_entry av (n := J.2.2.1) hlen
  rw [← hlv] at hl
  rw [lg_entry_eq]
  exact h p l e _ s m av.toArray below meth c s.heap [] 0 0 _ ⟨⟨B.exec, B.bytes, hml, findClass_of_methodNamed B.named, fun w hw => hts w (List.mem_cons_of_mem _ hw)⟩, B.returns, B.notSynchronized, Or.inr ⟨(name_of_methodNamed B.named B.method).1, B.named, B.method, (Stand.of_body B).code⟩, hK, hZ, hsz, Nat.le_refl _, Nat.le_refl _, Nat.le_refl _, Nat.le_refl _⟩ hok va_S.rf (Nat.le_of_eq (Nat.zero_add _)) (Nat.le_of_eq (Nat.zero_add _)) hl
theorem pf_len : plainFor yJ0_length_8abf5 = true := by decide +kernel
theorem pf_chr : plainFor yJ0_charAt_5068e = true := by decide +kernel
theorem pf_idx : plainFor yJ0_indexOf_0f7a4 = true := by decide +kernel
section MATHROWS
variable {fl : Nat} {G : mm_G} {J : mm_J} {d mc ms kc ks : Nat} {Q : Option Value → mm_M → Prop} {M : mm_M} {pc : Nat} {lv : List (Option Value)} {st : List Value}
theorem wa_mmin {i : Nat} {x y : Int32} (hd : decode J.2.1 pc = .ok (.invokestatic i, 3)) (hL : lk_S J.1.cls i jJ9_min_7cf53 2) (hcat : (st.map fun v => v.category).sum ≤ 8) (kk : wa_ fl G J (d + 1) mc ms Q kc ks M (pc + 3) lv (.int (if y < x then y else x) :: st)) : wa_ fl G J (d + 1) mc ms Q kc ks M pc lv (.int y :: .int x :: st) := by
  intro p l e R s m args below meth c H locs cells slots ls C hok hS hc hs hl
  have hR := C.2.2.2.2.2.2.2
  have hts := C.1.2.2.2.2
  obtain ⟨⟨w1, w2, w3, -, -⟩, w6⟩ := hL
  exact va_mmin C.1.1 C.1.2.1 (by rw [C.1.2.2.1]; exact hl.1.symm) C.1.2.2.2.1 (hts _ w1) (hts _ w6) (hts _ w3) (hts _ w2) (by omega) (by omega) (by omega) (by omega) hd (kk p l e R s m args below meth c H locs cells slots ls C hok hS hc hs hl)
theorem wa_mmax {i : Nat} {x y : Int32} (hd : decode J.2.1 pc = .ok (.invokestatic i, 3)) (hL : lk_S J.1.cls i jJ9_max_7cf53 2) (hcat : (st.map fun v => v.category).sum ≤ 8) (kk : wa_ fl G J (d + 1) mc ms Q kc ks M (pc + 3) lv (.int (if x < y then y else x) :: st)) : wa_ fl G J (d + 1) mc ms Q kc ks M pc lv (.int y :: .int x :: st) := by
  intro p l e R s m args below meth c H locs cells slots ls C hok hS hc hs hl
  have hR := C.2.2.2.2.2.2.2
  have hts := C.1.2.2.2.2
  obtain ⟨⟨w1, w2, w3, -, -⟩, w6⟩ := hL
  exact va_mmax C.1.1 C.1.2.1 (by rw [C.1.2.2.1]; exact hl.1.symm) C.1.2.2.2.1 (hts _ w1) (hts _ w6) (hts _ w3) (hts _ w2) (by omega) (by omega) (by omega) (by omega) hd (kk p l e R s m args below meth c H locs cells slots ls C hok hS hc hs hl)
theorem wa_mminL {i : Nat} {x y : Int64} (hd : decode J.2.1 pc = .ok (.invokestatic i, 3)) (hL : lk_S J.1.cls i jJ9_min_f86c9 2) (hcat : (st.map fun v => v.category).sum ≤ 8) (kk : wa_ fl G J (d + 1) mc ms Q kc ks M (pc + 3) lv (.long (if y < x then y else x) :: st)) : wa_ fl G J (d + 1) mc ms Q kc ks M pc lv (.long y :: .long x :: st) := by
  intro p l e R s m args below meth c H locs cells slots ls C hok hS hc hs hl
  have hR := C.2.2.2.2.2.2.2
  have hts := C.1.2.2.2.2
  obtain ⟨⟨w1, w2, w3, -, -⟩, w6⟩ := hL
  exact va_mmin_long C.1.1 C.1.2.1 (by rw [C.1.2.2.1]; exact hl.1.symm) C.1.2.2.2.1 (hts _ w1) (hts _ w6) (hts _ w3) (hts _ w2) (by omega) (by omega) (by omega) (by omega) hd (kk p l e R s m args below meth c H locs cells slots ls C hok hS hc hs hl)
end MATHROWS
