theorem ni_le {a b : Nat} (h : nI a ≤ nI b) (ha : a < 2 ^ 31) (hb : b < 2 ^ 31) : a ≤ b := (nI_leI ha hb).mp h
theorem ni_nle {a b : Nat} (h : ¬ nI a ≤ nI b) (ha : a < 2 ^ 31) (hb : b < 2 ^ 31) : b < a := Nat.not_le.mp fun q => h ((nI_leI ha hb).mpr q)
theorem ni_lt {a b : Nat} (h : nI a < nI b) (ha : a < 2 ^ 31) (hb : b < 2 ^ 31) : a < b := (nI_ltI ha hb).mp h
theorem ni_nlt {a b : Nat} (h : ¬ nI a < nI b) (ha : a < 2 ^ 31) (hb : b < 2 ^ 31) : b ≤ a := Nat.not_lt.mp fun q => h ((nI_ltI ha hb).mpr q)
theorem ni_i1 (t : Nat) : nI t + Int32.ofInt 1 = nI (t + 1) := nI_1 t
theorem ni_lin (c p t : Nat) : nI c * nI p + nI t = nI (c * p + t) := by rw [pk_mul, nI_add]
theorem ix_30 (p t : Nat) : (30 : Int32) * nI p + nI t = nI (30 * p + t) := ni_lin 30 p t
theorem ni_0 {t : Nat} (h : nI t = 0) (ht : t < 2 ^ 31) : t = 0 := (nI_eq ht (by decide)).mp (h.trans nI_0.symm)
/-- the day on which what was sent comes, by the reference -/
def md_com (M : mm_M) (y k : Nat) : Int32 := if mm_I M (y + 23) k = 0 then mm_I M (y + 20) k else mm_I M (y + 21) k
/-- the reference sends a tariff to a port -/
def md_snd (M : mm_M) (y k : Nat) (c : Int32) : mm_M := mm_sI (mm_sI (mm_sI (mm_sI M (y + 20) k c) (y + 21) k 1000000) (y + 22) k 1000000) (y + 23) k 0

theorem k_X12_comes {G : mm_G} {d : Nat} {Q : Option Value → mm_M → Prop} {M : mm_M} {y : Nat} (p : Nat) (t : Nat) (hY : mdl_ M y) (hp : p < 8) (ht : t < 30) (hQ : Q (some (.int (md_com M y (30 * p + t)))) M) : ma_ G jX12_comes d 0 0 [.ref y, .int (nI p), .int (nI t)] M Q := by
  refine ma_of [some (.ref y), some (.int (nI p)), some (.int (nI t)), none] (by decide) rfl (Nat.le_of_ble_eq_true rfl) ?_
  refine wa_bipush (v := 30) dX12_comes_0 (by decide) ?_
  refine wa_iload_n dX12_comes_2 rfl ?_
  refine wa_imul dX12_comes_3 ?_
  refine wa_iload_n dX12_comes_4 rfl ?_
  refine wa_iadd dX12_comes_5 ?_
  rw [ix_30 p t]
  refine wa_istore_n dX12_comes_6 (by decide) rfl rfl ?_
  refine wa_aload_n dX12_comes_7 rfl rfl ?_
  refine wa_getR (q := (RX12, TX12, 50)) (ci := 12) (k := 37) dX12_comes_8 rfl (by decide) wf_X12_85 hY.1 rfl (md_r37 hY) ?_
  refine wa_iload_n dX12_comes_11 rfl ?_
  refine wa_baldN dX12_comes_12 (md_s37 hY) (Or.inr rfl) (by omega) (by decide) ?_
  refine wa_if_eq (tgt := 25) dX12_comes_13 (by decide) (fun hT13 => ?_) (fun hF13 => ?_)
  · refine wa_aload_n dX12_comes_25 rfl rfl ?_
    refine wa_getR (q := (RX12, TX12, 50)) (ci := 12) (k := 34) dX12_comes_26 rfl (by decide) wf_X12_76 hY.1 rfl (md_r34 hY) ?_
    refine wa_iload_n dX12_comes_29 rfl ?_
    refine wa_ialdN dX12_comes_30 (md_s34 hY) (Or.inl rfl) (by omega) (by decide) ?_
    exact wa_iret dX12_comes_31 rfl (by unfold md_com at hQ; first | (rw [if_pos (by assumption)] at hQ; exact hQ) | (rw [if_neg (by assumption)] at hQ; exact hQ))
  · refine wa_aload_n dX12_comes_16 rfl rfl ?_
    refine wa_getR (q := (RX12, TX12, 50)) (ci := 12) (k := 35) dX12_comes_17 rfl (by decide) wf_X12_79 hY.1 rfl (md_r35 hY) ?_
    refine wa_iload_n dX12_comes_20 rfl ?_
    refine wa_ialdN dX12_comes_21 (md_s35 hY) (Or.inl rfl) (by omega) (by decide) ?_
    refine wa_goto (tgt := 31) dX12_comes_22 (by decide) ?_
    exact wa_iret dX12_comes_31 rfl (by unfold md_com at hQ; first | (rw [if_pos (by assumption)] at hQ; exact hQ) | (rw [if_neg (by assumption)] at hQ; exact hQ))

theorem k_X12_hasCome {G : mm_G} {d : Nat} {Q : Option Value → mm_M → Prop} {M : mm_M} {y : Nat} (p : Nat) (t : Nat) (dd : Int32) (hY : mdl_ M y) (hp : p < 8) (ht : t < 30) (h1 : md_com M y (30 * p + t) ≤ dd → Q (some (.int 1)) M) (h0 : dd < md_com M y (30 * p + t) → Q (some (.int 0)) M) : ma_ G jX12_hasCome (d + 1) 0 0 [.ref y, .int (nI p), .int (nI t), .int dd] M Q := by
  refine ma_of [some (.ref y), some (.int (nI p)), some (.int (nI t)), some (.int dd)] (by decide) rfl (Nat.le_of_ble_eq_true rfl) ?_
  refine wa_aload_n dX12_hasCome_0 rfl rfl ?_
  refine wa_iload_n dX12_hasCome_1 rfl ?_
  refine wa_iload_n dX12_hasCome_2 rfl ?_
  refine wa_callV  (q := (RX12, TX12, 50)) (As := [.int (nI p), .int (nI t)]) dX12_hasCome_3 lk_X12_259 rfl rfl hY.1 rfl rfl (Nat.le_of_ble_eq_true rfl) (Nat.le_of_eq (Nat.zero_add _)) (Nat.le_of_eq (Nat.zero_add _)) (k_X12_comes p t hY hp ht ?_)
  refine wa_iload_n dX12_hasCome_6 rfl ?_
  refine wa_icmp_gt (tgt := 14) dX12_hasCome_7 (by decide) (fun hT7 => ?_) (fun hF7 => ?_)
  · refine wa_iconst (v := 0) dX12_hasCome_14 (by decide) ?_
    exact wa_zret dX12_hasCome_15 rfl rfl (h0 (by assumption))
  · refine wa_iconst (v := 1) dX12_hasCome_10 (by decide) ?_
    refine wa_goto (tgt := 15) dX12_hasCome_11 (by decide) ?_
    exact wa_zret dX12_hasCome_15 rfl rfl (h1 (Int32.not_lt.mp (by assumption)))

theorem k_X12_sends {G : mm_G} {d : Nat} {Q : Option Value → mm_M → Prop} {M : mm_M} {y : Nat} (p : Nat) (t : Nat) (c : Int32) (hY : mdl_ M y) (hp : p < 8) (ht : t < 30) (hQ : Q none (md_snd M y (30 * p + t) c)) : ma_ G jX12_sends d 0 0 [.ref y, .int (nI p), .int (nI t), .int c] M Q := by
  refine ma_of [some (.ref y), some (.int (nI p)), some (.int (nI t)), some (.int c)] (by decide) rfl (Nat.le_of_ble_eq_true rfl) ?_
  refine wa_aload_n dX12_sends_0 rfl rfl ?_
  refine wa_getR (q := (RX12, TX12, 50)) (ci := 12) (k := 34) dX12_sends_1 rfl (by decide) wf_X12_76 hY.1 rfl (md_r34 hY) ?_
  refine wa_bipush (v := 30) dX12_sends_4 (by decide) ?_
  refine wa_iload_n dX12_sends_6 rfl ?_
  refine wa_imul dX12_sends_7 ?_
  refine wa_iload_n dX12_sends_8 rfl ?_
  refine wa_iadd dX12_sends_9 ?_
  rw [ix_30 p t]
  refine wa_iload_n dX12_sends_10 rfl ?_
  refine wa_iastN dX12_sends_11 (md_s34 hY) (by omega) (by decide) ?_
  refine wa_aload_n dX12_sends_12 rfl rfl ?_
  refine wa_getR (q := (RX12, TX12, 50)) (ci := 12) (k := 35) dX12_sends_13 rfl (by decide) wf_X12_79 hY.1 rfl (md_r35 hY) ?_
  refine wa_bipush (v := 30) dX12_sends_16 (by decide) ?_
  refine wa_iload_n dX12_sends_18 rfl ?_
  refine wa_imul dX12_sends_19 ?_
  refine wa_iload_n dX12_sends_20 rfl ?_
  refine wa_iadd dX12_sends_21 ?_
  rw [ix_30 p t]
  refine wa_ldc dX12_sends_22 wl_X12_249 ?_
  refine wa_iastN dX12_sends_24 (md_s35 hY) (by omega) (by decide) ?_
  refine wa_aload_n dX12_sends_25 rfl rfl ?_
  refine wa_getR (q := (RX12, TX12, 50)) (ci := 12) (k := 36) dX12_sends_26 rfl (by decide) wf_X12_82 hY.1 rfl (md_r36 hY) ?_
  refine wa_bipush (v := 30) dX12_sends_29 (by decide) ?_
  refine wa_iload_n dX12_sends_31 rfl ?_
  refine wa_imul dX12_sends_32 ?_
  refine wa_iload_n dX12_sends_33 rfl ?_
  refine wa_iadd dX12_sends_34 ?_
  rw [ix_30 p t]
  refine wa_ldc dX12_sends_35 wl_X12_249 ?_
  refine wa_iastN dX12_sends_37 (md_s36 hY) (by omega) (by decide) ?_
  refine wa_aload_n dX12_sends_38 rfl rfl ?_
  refine wa_getR (q := (RX12, TX12, 50)) (ci := 12) (k := 37) dX12_sends_39 rfl (by decide) wf_X12_85 hY.1 rfl (md_r37 hY) ?_
  refine wa_bipush (v := 30) dX12_sends_42 (by decide) ?_
  refine wa_iload_n dX12_sends_44 rfl ?_
  refine wa_imul dX12_sends_45 ?_
  refine wa_iload_n dX12_sends_46 rfl ?_
  refine wa_iadd dX12_sends_47 ?_
  rw [ix_30 p t]
  refine wa_iconst (v := 0) dX12_sends_48 (by decide) ?_
  refine wa_zastN dX12_sends_49 (md_s37 hY) (by omega) (by decide) (by decide) ?_
  exact wa_vret dX12_sends_50 rfl (hQ)

theorem k_X12_forceOf {G : mm_G} {d : Nat} {Q : Option Value → mm_M → Prop} {M : mm_M} {y : Nat} (p T : Nat) (hY : mdl_ M y) (hp : p < 8) (hT : mm_I M y 14 = nI T) (hT30 : T ≤ 30) (hQ : ∀ t, t ≤ T → (∀ j, j < t → md_com M y (30 * p + j) ≤ mm_I M y 27) → (t < T → mm_I M y 27 < md_com M y (30 * p + t)) → Q (some (.int (if t = 0 then -2 else nI t - 1))) M) : ma_ G jX12_forceOf (d + 2) 0 0 [.ref y, .int (nI p)] M Q := by
  refine ma_of [some (.ref y), some (.int (nI p)), none] (by decide) rfl (Nat.le_of_ble_eq_true rfl) ?_
  have ex : ∀ t, t ≤ T → Q (some (.int (if t = 0 then -2 else nI t - 1))) M → wa_ 0 G jX12_forceOf (d + 2) 0 0 Q 0 0 M 29 [some (.ref y), some (.int (nI p)), some (.int (nI t))] [] := by
    intro t ht hq
    refine wa_iload_n dX12_forceOf_29 rfl ?_
    refine wa_if_ne (tgt := 38) dX12_forceOf_30 (by decide) (fun hT30 => ?_) (fun hF30 => ?_)
    · refine wa_iload_n dX12_forceOf_38 rfl ?_
      refine wa_iconst (v := 1) dX12_forceOf_39 (by decide) ?_
      refine wa_isub dX12_forceOf_40 ?_
      exact wa_iret dX12_forceOf_41 rfl (by first | (rw [if_pos (ni_0 (by assumption) (by omega))] at hq; exact hq) | (rw [if_neg (fun h => (by assumption : ¬ nI t = 0) (by rw [h]; rfl))] at hq; exact hq))
    · refine wa_bipush (v := -2) dX12_forceOf_33 (by decide) ?_
      refine wa_goto (tgt := 41) dX12_forceOf_35 (by decide) ?_
      exact wa_iret dX12_forceOf_41 rfl (by first | (rw [if_pos (ni_0 (by assumption) (by omega))] at hq; exact hq) | (rw [if_neg (fun h => (by assumption : ¬ nI t = 0) (by rw [h]; rfl))] at hq; exact hq))
  have loop : ∀ (n t : Nat), T - t = n → t ≤ T → (∀ j, j < t → md_com M y (30 * p + j) ≤ mm_I M y 27) → wa_ 0 G jX12_forceOf (d + 2) 0 0 Q 0 0 M 2 [some (.ref y), some (.int (nI p)), some (.int (nI t))] [] := by
    intro n
    induction n using Nat.strongRecOn with
    | ind n ih =>
      intro t hn ht hj
      refine wa_iload_n dX12_forceOf_2 rfl ?_
      refine wa_aload_n dX12_forceOf_3 rfl rfl ?_
      refine wa_getI (q := (RX12, TX12, 50)) (ci := 12) (k := 14) dX12_forceOf_4 rfl (by decide) wf_X12_201 hY.1 rfl ?_
      rw [hT]
      refine wa_icmp_ge (tgt := 29) dX12_forceOf_7 (by decide) (fun hT7 => ?_) (fun hF7 => ?_)
      · exact ex t ht (hQ t ht hj (fun h => by first | exact hC | exact absurd (ni_le hT7 (by omega) (by omega)) (by omega)))
      · refine wa_aload_n dX12_forceOf_10 rfl rfl ?_
        refine wa_iload_n dX12_forceOf_11 rfl ?_
        refine wa_iload_n dX12_forceOf_12 rfl ?_
        refine wa_aload_n dX12_forceOf_13 rfl rfl ?_
        refine wa_getI (q := (RX12, TX12, 50)) (ci := 12) (k := 27) dX12_forceOf_14 rfl (by decide) wf_X12_239 hY.1 rfl ?_
        refine wa_callV  (q := (RX12, TX12, 50)) (As := [.int (nI p), .int (nI t), .int (mm_I M y 27)]) dX12_forceOf_17 lk_X12_268 rfl rfl hY.1 rfl rfl (Nat.le_of_ble_eq_true rfl) (Nat.le_of_eq (Nat.zero_add _)) (Nat.le_of_eq (Nat.zero_add _)) (k_X12_hasCome p t _ hY hp (have := ni_nle hF7 (by omega) (by omega); by omega) (fun hC => ?_) (fun hC => ?_))
        · refine wa_if_eq (tgt := 29) dX12_forceOf_20 (by decide) (fun h9 => absurd h9 (by decide)) (fun _ => ?_)
          refine wa_iinc (v := nI (t + 1)) dX12_forceOf_23 rfl (ni_i1 t) (by decide) rfl rfl ?_
          refine wa_goto (tgt := 2) dX12_forceOf_26 (by decide) ?_
          exact ih (T - (t + 1)) (have := ni_nle hF7 (by omega) (by omega); by omega) (t + 1) rfl (have := ni_nle hF7 (by omega) (by omega); by omega) (fun j hj2 => by
            rcases Nat.lt_succ_iff_lt_or_eq.mp hj2 with h | h
            · exact hj j h
            · rw [h]; exact hC)
        · refine wa_if_eq (tgt := 29) dX12_forceOf_20 (by decide) (fun _ => ?_) (fun h9 => absurd h9 (by decide))
          exact ex t ht (hQ t ht hj (fun h => by first | exact hC | exact absurd (ni_le hT7 (by omega) (by omega)) (by omega)))
  refine wa_iconst (v := 0) dX12_forceOf_0 (by decide) ?_
  refine wa_istore_n dX12_forceOf_1 (by decide) rfl rfl ?_
  exact loop T 0 (by omega) (by omega) (fun j h => absurd h (by omega))
