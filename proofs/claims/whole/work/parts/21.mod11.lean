theorem k_X12_paper {G : mm_G} {d : Nat} {Q : Option Value → mm_M → Prop} {M : mm_M} {y : Nat} (i : Int32) (w : Int32) {M0 : mm_M} (hM0 : M0 = mm_sI M y 0 0) (hY : mdl_ M0 y) (N : Nat) (pq : Nat → Nat) (hN : md_PP M0 y N pq) (h0 : i < 0 ∨ mm_I M0 y 38 ≤ i → Q (some (.int (-1))) M0) (hX : ∀ q : Nat, i = nI q → q < N → (w.toInt < 0 ∨ (8 : Nat) < w.toInt) → Q (some (.int (-1))) M0) (h1 : ∀ q j : Nat, i = nI q → q < N → j < 7 → w = nI j → Q (some (.int (mm_I M0 (y + 24 + j) q))) M0) (h7 : ∀ q : Nat, i = nI q → q < N → w = nI 7 → Q (some (.int (si_ (fun w => mm_I M0 (y + 32) (5 * q + w)) 5))) M0) (h8 : ∀ q : Nat, i = nI q → q < N → w = nI 8 → md_ho M0 y pq q ≤ mm_I M0 y 27 → Q (some (.int (md_ho M0 y pq q))) M0) (h9 : ∀ q : Nat, i = nI q → q < N → w = nI 8 → mm_I M0 y 27 < md_ho M0 y pq q → Q (some (.int (-2))) M0) : ma_ G jX12_paper (d + 1) 0 0 [.ref y, .int i, .int w] M Q := by
  refine ma_of [some (.ref y), some (.int i), some (.int w), none, none] (by decide) rfl (Nat.le_of_ble_eq_true rfl) ?_
  have hY0 : mdl_ M y := by subst hM0; exact hY
  refine wa_aload_n dX12_paper_0 rfl rfl ?_
  refine wa_iconst (v := 0) dX12_paper_1 (by decide) ?_
  refine wa_put (q := (RX12, TX12, 50)) (ci := 12) (k := 0) dX12_paper_2 rfl (by decide) wf_X12_123 rfl hY0.1 rfl ?_
  rw [show mm_put M y 0 (.int 0) = M0 from hM0.symm]
  have hN2 := hN.2.1
  have lp : ∀ (q : Nat) (w : Int32), q < N → Q (some (.int (si_ (fun w => mm_I M0 (y + 32) (5 * q + w)) 5))) M0 → ∀ (r k : Nat), 5 - k = r → k ≤ 5 → wa_ 0 G jX12_paper (d + 1) 0 0 Q 0 0 M0 126 [some (.ref y), some (.int (nI q)), some (.int w), some (.int (si_ (fun w => mm_I M0 (y + 32) (5 * q + w)) k)), some (.int (nI k))] [] := by
    intro q w hq hqq r
    induction r with
    | zero =>
      intro k hr hk
      have hk5 : k = 5 := by omega
      subst hk5
      refine wa_iload dX12_paper_126 rfl ?_
      refine wa_iconst (v := 5) dX12_paper_128 (by decide) ?_
      refine wa_icmp_ge (tgt := 152) dX12_paper_129 (by decide) (fun _ => ?_) (fun h9 => absurd h9 (by decide))
      refine wa_iload_n dX12_paper_152 rfl ?_
      exact wa_iret dX12_paper_153 rfl (hqq)
    | succ r ih =>
      intro k hr hk
      refine wa_iload dX12_paper_126 rfl ?_
      refine wa_iconst (v := 5) dX12_paper_128 (by decide) ?_
      refine wa_icmp_ge (tgt := 152) dX12_paper_129 (by decide) (fun hT129 => absurd hT129 (nI_ge (b := 5) (by omega) (by decide))) (fun hF129 => ?_)
      refine wa_iload_n dX12_paper_132 rfl ?_
      refine wa_aload_n dX12_paper_133 rfl rfl ?_
      refine wa_getR (q := (RX12, TX12, 50)) (ci := 12) (k := 47) dX12_paper_134 rfl (by decide) wf_X12_113 hY.1 rfl (md_r47 hY) ?_
      refine wa_iconst (v := 5) dX12_paper_137 (by decide) ?_
      refine wa_iload_n dX12_paper_138 rfl ?_
      refine wa_imul dX12_paper_139 ?_
      refine wa_iload dX12_paper_140 rfl ?_
      refine wa_iadd dX12_paper_142 ?_
      rw [ix_5 q k]
      refine wa_ialdN dX12_paper_143 (md_s47 hY) (Or.inl rfl) (by omega) (by decide) ?_
      refine wa_iadd dX12_paper_144 ?_
      refine wa_istore_n dX12_paper_145 (by decide) rfl rfl ?_
      refine wa_iinc (v := nI (k + 1)) dX12_paper_146 rfl (ni_i1 k) (by decide) rfl rfl ?_
      refine wa_goto (tgt := 126) dX12_paper_149 (by decide) ?_
      exact ih (k + 1) (by omega) (by omega)
  refine wa_iload_n dX12_paper_5 rfl ?_
  refine wa_if_lt (tgt := 17) dX12_paper_6 (by decide) (fun hT6 => ?_) (fun hF6 => ?_)
  · refine wa_iconst (v := -1) dX12_paper_17 (by decide) ?_
    exact wa_iret dX12_paper_18 rfl (h0 (by first | exact Or.inl (by assumption) | exact Or.inr (Int32.not_lt.mp (by assumption))))
  · refine wa_iload_n dX12_paper_9 rfl ?_
    refine wa_aload_n dX12_paper_10 rfl rfl ?_
    refine wa_getI (q := (RX12, TX12, 50)) (ci := 12) (k := 38) dX12_paper_11 rfl (by decide) wf_X12_313 hY.1 rfl ?_
    refine wa_icmp_lt (tgt := 19) dX12_paper_14 (by decide) (fun hT14 => ?_) (fun hF14 => ?_)
    · rw [hN.1] at hT14
      obtain ⟨q, hq, rfl⟩ := ix_of hF6 (Int32.not_le.mpr hT14) (by omega)
      refine wa_iload_n dX12_paper_19 rfl ?_
      rcases sw_of w 8 (by decide) with ⟨j_, hj_, rfl⟩ | hO20
      · rcases (by omega : j_ = 0 ∨ j_ = 1 ∨ j_ = 2 ∨ j_ = 3 ∨ j_ = 4 ∨ j_ = 5 ∨ j_ = 6 ∨ j_ = 7 ∨ j_ = 8) with rfl | rfl | rfl | rfl | rfl | rfl | rfl | rfl | rfl
        · refine wa_tableIn (off := 52) (tgt := 72) dX12_paper_20 (by decide) (by decide) (by decide) (by decide) ?_
          refine wa_aload_n dX12_paper_72 rfl rfl ?_
          refine wa_getR (q := (RX12, TX12, 50)) (ci := 12) (k := 39) dX12_paper_73 rfl (by decide) wf_X12_89 hY.1 rfl (md_r39 hY) ?_
          refine wa_iload_n dX12_paper_76 rfl ?_
          refine wa_ialdN dX12_paper_77 (md_s39 hY) (Or.inl rfl) (by omega) (by decide) ?_
          exact wa_iret dX12_paper_78 rfl (h1 q 0 rfl hq (by decide) rfl)
        · refine wa_tableIn (off := 59) (tgt := 79) dX12_paper_20 (by decide) (by decide) (by decide) (by decide) ?_
          refine wa_aload_n dX12_paper_79 rfl rfl ?_
          refine wa_getR (q := (RX12, TX12, 50)) (ci := 12) (k := 40) dX12_paper_80 rfl (by decide) wf_X12_92 hY.1 rfl (md_r40 hY) ?_
          refine wa_iload_n dX12_paper_83 rfl ?_
          refine wa_ialdN dX12_paper_84 (md_s40 hY) (Or.inl rfl) (by omega) (by decide) ?_
          exact wa_iret dX12_paper_85 rfl (h1 q 1 rfl hq (by decide) rfl)
        · refine wa_tableIn (off := 66) (tgt := 86) dX12_paper_20 (by decide) (by decide) (by decide) (by decide) ?_
          refine wa_aload_n dX12_paper_86 rfl rfl ?_
          refine wa_getR (q := (RX12, TX12, 50)) (ci := 12) (k := 41) dX12_paper_87 rfl (by decide) wf_X12_95 hY.1 rfl (md_r41 hY) ?_
          refine wa_iload_n dX12_paper_90 rfl ?_
          refine wa_ialdN dX12_paper_91 (md_s41 hY) (Or.inl rfl) (by omega) (by decide) ?_
          exact wa_iret dX12_paper_92 rfl (h1 q 2 rfl hq (by decide) rfl)
        · refine wa_tableIn (off := 73) (tgt := 93) dX12_paper_20 (by decide) (by decide) (by decide) (by decide) ?_
          refine wa_aload_n dX12_paper_93 rfl rfl ?_
          refine wa_getR (q := (RX12, TX12, 50)) (ci := 12) (k := 42) dX12_paper_94 rfl (by decide) wf_X12_98 hY.1 rfl (md_r42 hY) ?_
          refine wa_iload_n dX12_paper_97 rfl ?_
          refine wa_ialdN dX12_paper_98 (md_s42 hY) (Or.inl rfl) (by omega) (by decide) ?_
          exact wa_iret dX12_paper_99 rfl (h1 q 3 rfl hq (by decide) rfl)
        · refine wa_tableIn (off := 80) (tgt := 100) dX12_paper_20 (by decide) (by decide) (by decide) (by decide) ?_
          refine wa_aload_n dX12_paper_100 rfl rfl ?_
          refine wa_getR (q := (RX12, TX12, 50)) (ci := 12) (k := 43) dX12_paper_101 rfl (by decide) wf_X12_101 hY.1 rfl (md_r43 hY) ?_
          refine wa_iload_n dX12_paper_104 rfl ?_
          refine wa_ialdN dX12_paper_105 (md_s43 hY) (Or.inl rfl) (by omega) (by decide) ?_
          exact wa_iret dX12_paper_106 rfl (h1 q 4 rfl hq (by decide) rfl)
        · refine wa_tableIn (off := 87) (tgt := 107) dX12_paper_20 (by decide) (by decide) (by decide) (by decide) ?_
          refine wa_aload_n dX12_paper_107 rfl rfl ?_
          refine wa_getR (q := (RX12, TX12, 50)) (ci := 12) (k := 44) dX12_paper_108 rfl (by decide) wf_X12_104 hY.1 rfl (md_r44 hY) ?_
          refine wa_iload_n dX12_paper_111 rfl ?_
          refine wa_ialdN dX12_paper_112 (md_s44 hY) (Or.inl rfl) (by omega) (by decide) ?_
          exact wa_iret dX12_paper_113 rfl (h1 q 5 rfl hq (by decide) rfl)
        · refine wa_tableIn (off := 94) (tgt := 114) dX12_paper_20 (by decide) (by decide) (by decide) (by decide) ?_
          refine wa_aload_n dX12_paper_114 rfl rfl ?_
          refine wa_getR (q := (RX12, TX12, 50)) (ci := 12) (k := 45) dX12_paper_115 rfl (by decide) wf_X12_107 hY.1 rfl (md_r45 hY) ?_
          refine wa_iload_n dX12_paper_118 rfl ?_
          refine wa_ialdN dX12_paper_119 (md_s45 hY) (Or.inl rfl) (by omega) (by decide) ?_
          exact wa_iret dX12_paper_120 rfl (h1 q 6 rfl hq (by decide) rfl)
        · refine wa_tableIn (off := 101) (tgt := 121) dX12_paper_20 (by decide) (by decide) (by decide) (by decide) ?_
          refine wa_iconst (v := 0) dX12_paper_121 (by decide) ?_
          refine wa_istore_n dX12_paper_122 (by decide) rfl rfl ?_
          refine wa_iconst (v := 0) dX12_paper_123 (by decide) ?_
          refine wa_istore dX12_paper_124 (by decide) rfl rfl ?_
          exact lp q _ hq (h7 q rfl hq rfl) 5 0 (by omega) (by omega)
        · refine wa_tableIn (off := 134) (tgt := 154) dX12_paper_20 (by decide) (by decide) (by decide) (by decide) ?_
          refine wa_aload_n dX12_paper_154 rfl rfl ?_
          refine wa_iload_n dX12_paper_155 rfl ?_
          refine wa_callV (q := (RX12, TX12, 50)) (As := [.int (nI q)]) dX12_paper_156 lk_X12_316 rfl rfl hY.1 rfl rfl (Nat.le_of_ble_eq_true rfl) (Nat.le_of_eq (Nat.zero_add _)) (Nat.le_of_eq (Nat.zero_add _)) (k_X12_homeOf q (pq q) hY (by omega) (hN.2.2 q hq).1 (hN.2.2 q hq).2 ?_)
          refine wa_aload_n dX12_paper_159 rfl rfl ?_
          refine wa_getI (q := (RX12, TX12, 50)) (ci := 12) (k := 27) dX12_paper_160 rfl (by decide) wf_X12_239 hY.1 rfl ?_
          refine wa_icmp_gt (tgt := 174) dX12_paper_163 (by decide) (fun hT163 => ?_) (fun hF163 => ?_)
          · refine wa_bipush (v := -2) dX12_paper_174 (by decide) ?_
            exact wa_iret dX12_paper_176 rfl (h9 q rfl hq rfl (by assumption))
          · refine wa_aload_n dX12_paper_166 rfl rfl ?_
            refine wa_iload_n dX12_paper_167 rfl ?_
            refine wa_callV (q := (RX12, TX12, 50)) (As := [.int (nI q)]) dX12_paper_168 lk_X12_316 rfl rfl hY.1 rfl rfl (Nat.le_of_ble_eq_true rfl) (Nat.le_of_eq (Nat.zero_add _)) (Nat.le_of_eq (Nat.zero_add _)) (k_X12_homeOf q (pq q) hY (by omega) (hN.2.2 q hq).1 (hN.2.2 q hq).2 ?_)
            refine wa_goto (tgt := 176) dX12_paper_171 (by decide) ?_
            exact wa_iret dX12_paper_176 rfl (h8 q rfl hq rfl (Int32.not_lt.mp (by assumption)))
      · refine wa_tableOut (tgt := 177) dX12_paper_20 hO20 (by decide) ?_
        refine wa_iconst (v := -1) dX12_paper_177 (by decide) ?_
        exact wa_iret dX12_paper_178 rfl (hX q rfl hq hO20)
    · refine wa_iconst (v := -1) dX12_paper_17 (by decide) ?_
      exact wa_iret dX12_paper_18 rfl (h0 (by first | exact Or.inl (by assumption) | exact Or.inr (Int32.not_lt.mp (by assumption))))

theorem k_X12_fee {G : mm_G} {d : Nat} {Q : Option Value → mm_M → Prop} {M : mm_M} {y : Nat} (r : Int32) (p : Int32) (k : Int32) (v : Int32) (s : Int32) {M0 : mm_M} (hM0 : M0 = mm_sI M y 0 0) (hY : mdl_ M0 y) (P T : Nat) (hP : mm_I M0 y 26 = nI P) (hP8 : P ≤ 8) (hT : mm_I M0 y 14 = nI T) (hT30 : T ≤ 30) (ln tn tm : Nat → Nat) (hF : ∀ t, t < T → md_TF M0 y t (ln t) tn tm) (hA0 : (r < 0 ∨ mm_I M0 y 14 ≤ r) ∨ (p < 0 ∨ mm_I M0 y 26 ≤ p) → Q (some (.int (-1))) (mm_sI (mm_sI M0 y 1 1) y 2 (-1))) (h2 : ∀ t q : Nat, r = nI t → t < T → p = nI q → q < P → ¬ (0 ≤ k ∧ k ≤ 9 ∧ 0 ≤ v ∧ v ≤ 9999 ∧ 1 ≤ s ∧ s ≤ 99) → Q (some (.int (-1))) (mm_sI (mm_sI M0 y 1 2) y 2 (-1))) (h1 : ∀ t q : Nat, r = nI t → t < T → p = nI q → q < P → 0 ≤ k → k ≤ 9 → 0 ≤ v → v ≤ 9999 → 1 ≤ s → s ≤ 99 → Q (some (.int (if md_ft M0 y ln tn tm t k v s p (mm_I M0 (y + 17) q) = -1 then -2 else md_ft M0 y ln tn tm t k v s p (mm_I M0 (y + 17) q)))) (mm_sI (mm_sI M0 y 1 0) y 2 (-1))) : ma_ G jX12_fee (d + 2) 0 0 [.ref y, .int r, .int p, .int k, .int v, .int s] M Q := by
  refine ma_of [some (.ref y), some (.int r), some (.int p), some (.int k), some (.int v), some (.int s), none] (by decide) rfl (Nat.le_of_ble_eq_true rfl) ?_
  have hY0 : mdl_ M y := by subst hM0; exact hY
  refine wa_aload_n dX12_fee_0 rfl rfl ?_
  refine wa_iconst (v := 0) dX12_fee_1 (by decide) ?_
  refine wa_put (q := (RX12, TX12, 50)) (ci := 12) (k := 0) dX12_fee_2 rfl (by decide) wf_X12_123 rfl hY0.1 rfl ?_
  rw [show mm_put M y 0 (.int 0) = M0 from hM0.symm]
  refine wa_aload_n dX12_fee_5 rfl rfl ?_
  refine wa_iload_n dX12_fee_6 rfl ?_
  refine wa_callV (q := (RX12, TX12, 50)) (As := [.int r]) dX12_fee_7 lk_X12_265 rfl rfl hY.1 rfl rfl (Nat.le_of_ble_eq_true rfl) (Nat.le_of_eq (Nat.zero_add _)) (Nat.le_of_eq (Nat.zero_add _)) (k_X12_isTariff r hY (fun hC hD => ?_) (fun hC => ?_))
  · rw [hT] at hD
    obtain ⟨t, ht, rfl⟩ := ix_of hC hD (by omega)
    refine wa_if_eq (tgt := 21) dX12_fee_10 (by decide) (fun h9 => absurd h9 (by decide)) (fun _ => ?_)
    refine wa_aload_n dX12_fee_13 rfl rfl ?_
    refine wa_iload_n dX12_fee_14 rfl ?_
    refine wa_callV (q := (RX12, TX12, 50)) (As := [.int p]) dX12_fee_15 lk_X12_262 rfl rfl hY.1 rfl rfl (Nat.le_of_ble_eq_true rfl) (Nat.le_of_eq (Nat.zero_add _)) (Nat.le_of_eq (Nat.zero_add _)) (k_X12_isPort p hY (fun hA hB => ?_) (fun hA => ?_))
    · rw [hP] at hB
      obtain ⟨q, hq, rfl⟩ := ix_of hA hB (by omega)
      refine wa_if_ne (tgt := 27) dX12_fee_18 (by decide) (fun _ => ?_) (fun h9 => absurd h9 (by decide))
      refine wa_iload_n dX12_fee_27 rfl ?_
      refine wa_iload dX12_fee_28 rfl ?_
      refine wa_iload dX12_fee_30 rfl ?_
      refine wa_callS (As := [.int k, .int v, .int s]) dX12_fee_32 lk_X12_278 rfl rfl (Nat.le_of_ble_eq_true rfl) (Nat.le_of_eq (Nat.zero_add _)) (Nat.le_of_eq (Nat.zero_add _)) (k_X12_isPaper k v s (fun ha hb hc hd he hf => ?_) (fun ha => ?_))
      · refine wa_if_ne (tgt := 44) dX12_fee_35 (by decide) (fun _ => ?_) (fun h9 => absurd h9 (by decide))
        refine wa_aload_n dX12_fee_44 rfl rfl ?_
        refine wa_iload_n dX12_fee_45 rfl ?_
        refine wa_iload_n dX12_fee_46 rfl ?_
        refine wa_iload dX12_fee_47 rfl ?_
        refine wa_iload dX12_fee_49 rfl ?_
        refine wa_iload_n dX12_fee_51 rfl ?_
        refine wa_aload_n dX12_fee_52 rfl rfl ?_
        refine wa_getR (q := (RX12, TX12, 50)) (ci := 12) (k := 31) dX12_fee_53 rfl (by decide) wf_X12_67 hY.1 rfl (md_r31 hY) ?_
        refine wa_iload_n dX12_fee_56 rfl ?_
        refine wa_ialdN dX12_fee_57 (md_s31 hY) (Or.inl rfl) (by omega) (by decide) ?_
        refine wa_callV (q := (RX12, TX12, 50)) (As := [.int (nI t), .int k, .int v, .int s, .int (nI q), .int (mm_I M0 (y + 17) q)]) dX12_fee_58 lk_X12_281 rfl rfl hY.1 rfl rfl (Nat.le_of_ble_eq_true rfl) (Nat.le_of_eq (Nat.zero_add _)) (Nat.le_of_eq (Nat.zero_add _)) (kk_X12_feeOf t ln tn tm _ _ _ _ _ hY (by omega) (hF t ht) ?_)
        refine wa_istore dX12_fee_61 (by decide) rfl rfl ?_
        refine wa_aload_n dX12_fee_63 rfl rfl ?_
        refine wa_iload dX12_fee_64 rfl ?_
        refine wa_iconst (v := -1) dX12_fee_66 (by decide) ?_
        refine wa_icmp_ne (tgt := 75) dX12_fee_67 (by decide) (fun hT67 => ?_) (fun hF67 => ?_)
        · refine wa_iload dX12_fee_75 rfl ?_
          refine wa_topi (fun z hz => ?_)
          refine wa_callV (q := (RX12, TX12, 50)) (As := [.int z]) dX12_fee_77 lk_X12_246 rfl rfl hY.1 rfl rfl (Nat.le_of_ble_eq_true rfl) (Nat.le_of_eq (Nat.zero_add _)) (Nat.le_of_eq (Nat.zero_add _)) (k_X12_done _ hY ?_)
          exact wa_iret dX12_fee_80 rfl (by have h9 := h1 t q rfl ht rfl hq ha hb hc hd he hf; first | (rw [if_pos hF67] at h9; rw [hz]; exact h9) | (rw [if_neg hT67] at h9; rw [hz]; exact h9))
        · refine wa_bipush (v := -2) dX12_fee_70 (by decide) ?_
          refine wa_goto (tgt := 77) dX12_fee_72 (by decide) ?_
          refine wa_topi (fun z hz => ?_)
          refine wa_callV (q := (RX12, TX12, 50)) (As := [.int z]) dX12_fee_77 lk_X12_246 rfl rfl hY.1 rfl rfl (Nat.le_of_ble_eq_true rfl) (Nat.le_of_eq (Nat.zero_add _)) (Nat.le_of_eq (Nat.zero_add _)) (k_X12_done _ hY ?_)
          exact wa_iret dX12_fee_80 rfl (by have h9 := h1 t q rfl ht rfl hq ha hb hc hd he hf; first | (rw [if_pos hF67] at h9; rw [hz]; exact h9) | (rw [if_neg hT67] at h9; rw [hz]; exact h9))
      · refine wa_if_ne (tgt := 44) dX12_fee_35 (by decide) (fun h9 => absurd h9 (by decide)) (fun _ => ?_)
        refine wa_aload_n dX12_fee_38 rfl rfl ?_
        refine wa_iconst (v := 2) dX12_fee_39 (by decide) ?_
        refine wa_callV (q := (RX12, TX12, 50)) (As := [.int 2]) dX12_fee_40 lk_X12_233 rfl rfl hY.1 rfl rfl (Nat.le_of_ble_eq_true rfl) (Nat.le_of_eq (Nat.zero_add _)) (Nat.le_of_eq (Nat.zero_add _)) (k_X12_refused 2 hY ?_)
        exact wa_iret dX12_fee_43 rfl (h2 t q rfl ht rfl hq ha)
    · refine wa_if_ne (tgt := 27) dX12_fee_18 (by decide) (fun h9 => absurd h9 (by decide)) (fun _ => ?_)
      refine wa_aload_n dX12_fee_21 rfl rfl ?_
      refine wa_iconst (v := 1) dX12_fee_22 (by decide) ?_
      refine wa_callV (q := (RX12, TX12, 50)) (As := [.int 1]) dX12_fee_23 lk_X12_233 rfl rfl hY.1 rfl rfl (Nat.le_of_ble_eq_true rfl) (Nat.le_of_eq (Nat.zero_add _)) (Nat.le_of_eq (Nat.zero_add _)) (k_X12_refused 1 hY ?_)
      exact wa_iret dX12_fee_26 rfl (hA0 (by first | exact Or.inr hA | exact Or.inl hC))
  · refine wa_if_eq (tgt := 21) dX12_fee_10 (by decide) (fun _ => ?_) (fun h9 => absurd h9 (by decide))
    refine wa_aload_n dX12_fee_21 rfl rfl ?_
    refine wa_iconst (v := 1) dX12_fee_22 (by decide) ?_
    refine wa_callV (q := (RX12, TX12, 50)) (As := [.int 1]) dX12_fee_23 lk_X12_233 rfl rfl hY.1 rfl rfl (Nat.le_of_ble_eq_true rfl) (Nat.le_of_eq (Nat.zero_add _)) (Nat.le_of_eq (Nat.zero_add _)) (k_X12_refused 1 hY ?_)
    exact wa_iret dX12_fee_26 rfl (hA0 (by first | exact Or.inr hA | exact Or.inl hC))
