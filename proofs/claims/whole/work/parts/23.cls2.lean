theorem rf_some {r : Option Nat} {a : Nat} (h : r = some a) : va_rf r = .ref a := by rw [h]; rfl
theorem rf_none {r : Option Nat} (h : r = none) : va_rf r = .null := by rw [h]; rfl
/-! papers, tests, terms, lines, tariffs -/
def me_ (M : mm_M) (a : Nat) (x : Int32) : Int32 := if x = 8 then mm_I M a 2 else if x = 9 then mm_I M a 3 else if x = 10 then mm_I M a 0 else if x = 11 then mm_I M a 4 else 1
theorem me_out (M : mm_M) (a : Nat) {x : Int32} (h : x.toInt < 8 ∨ 11 < x.toInt) : me_ M a x = 1 := by
  unfold me_
  rw [if_neg (fun e => by subst e; revert h; decide), if_neg (fun e => by subst e; revert h; decide), if_neg (fun e => by subst e; revert h; decide), if_neg (fun e => by subst e; revert h; decide)]

theorem k_X2_measure {G : mm_G} {d : Nat} {Q : Option Value → mm_M → Prop} {M : mm_M} {a : Nat} (x : Int32) (ha : mm_sh M a = some (.inl 2)) (hQ : Q (some (.int (me_ M a x))) M) : ma_ G jX2_measure d 0 0 [.ref a, .int x] M Q := by
  refine ma_of [some (.ref a), some (.int x)] (by decide) rfl (Nat.le_of_ble_eq_true rfl) ?_
  refine wa_iload_n dX2_measure_0 rfl ?_
  rcases sw_of x 11 (by decide) with ⟨j_, hj_, rfl⟩ | hO1
  · rcases (by omega : j_ = 0 ∨ j_ = 1 ∨ j_ = 2 ∨ j_ = 3 ∨ j_ = 4 ∨ j_ = 5 ∨ j_ = 6 ∨ j_ = 7 ∨ j_ = 8 ∨ j_ = 9 ∨ j_ = 10 ∨ j_ = 11) with rfl | rfl | rfl | rfl | rfl | rfl | rfl | rfl | rfl | rfl | rfl | rfl
    · refine wa_tableOut (tgt := 52) dX2_measure_1 (Or.inl (by decide)) (by decide) ?_
      refine wa_iconst (v := 1) dX2_measure_52 (by decide) ?_
      exact wa_iret dX2_measure_53 rfl (by first | (rw [me_out M a (Or.inl (by decide))] at hQ; exact hQ) | (rw [me_out M a (by omega)] at hQ; exact hQ))
    · refine wa_tableOut (tgt := 52) dX2_measure_1 (Or.inl (by decide)) (by decide) ?_
      refine wa_iconst (v := 1) dX2_measure_52 (by decide) ?_
      exact wa_iret dX2_measure_53 rfl (by first | (rw [me_out M a (Or.inl (by decide))] at hQ; exact hQ) | (rw [me_out M a (by omega)] at hQ; exact hQ))
    · refine wa_tableOut (tgt := 52) dX2_measure_1 (Or.inl (by decide)) (by decide) ?_
      refine wa_iconst (v := 1) dX2_measure_52 (by decide) ?_
      exact wa_iret dX2_measure_53 rfl (by first | (rw [me_out M a (Or.inl (by decide))] at hQ; exact hQ) | (rw [me_out M a (by omega)] at hQ; exact hQ))
    · refine wa_tableOut (tgt := 52) dX2_measure_1 (Or.inl (by decide)) (by decide) ?_
      refine wa_iconst (v := 1) dX2_measure_52 (by decide) ?_
      exact wa_iret dX2_measure_53 rfl (by first | (rw [me_out M a (Or.inl (by decide))] at hQ; exact hQ) | (rw [me_out M a (by omega)] at hQ; exact hQ))
    · refine wa_tableOut (tgt := 52) dX2_measure_1 (Or.inl (by decide)) (by decide) ?_
      refine wa_iconst (v := 1) dX2_measure_52 (by decide) ?_
      exact wa_iret dX2_measure_53 rfl (by first | (rw [me_out M a (Or.inl (by decide))] at hQ; exact hQ) | (rw [me_out M a (by omega)] at hQ; exact hQ))
    · refine wa_tableOut (tgt := 52) dX2_measure_1 (Or.inl (by decide)) (by decide) ?_
      refine wa_iconst (v := 1) dX2_measure_52 (by decide) ?_
      exact wa_iret dX2_measure_53 rfl (by first | (rw [me_out M a (Or.inl (by decide))] at hQ; exact hQ) | (rw [me_out M a (by omega)] at hQ; exact hQ))
    · refine wa_tableOut (tgt := 52) dX2_measure_1 (Or.inl (by decide)) (by decide) ?_
      refine wa_iconst (v := 1) dX2_measure_52 (by decide) ?_
      exact wa_iret dX2_measure_53 rfl (by first | (rw [me_out M a (Or.inl (by decide))] at hQ; exact hQ) | (rw [me_out M a (by omega)] at hQ; exact hQ))
    · refine wa_tableOut (tgt := 52) dX2_measure_1 (Or.inl (by decide)) (by decide) ?_
      refine wa_iconst (v := 1) dX2_measure_52 (by decide) ?_
      exact wa_iret dX2_measure_53 rfl (by first | (rw [me_out M a (Or.inl (by decide))] at hQ; exact hQ) | (rw [me_out M a (by omega)] at hQ; exact hQ))
    · refine wa_tableIn (off := 31) (tgt := 32) dX2_measure_1 (by decide) (by decide) (by decide) (by decide) ?_
      refine wa_aload_n dX2_measure_32 rfl rfl ?_
      refine wa_getI (q := (RX2, TX2, 9)) (ci := 2) (k := 2) dX2_measure_33 rfl (by decide) wf_X2_31 ha rfl ?_
      exact wa_iret dX2_measure_36 rfl (hQ)
    · refine wa_tableIn (off := 36) (tgt := 37) dX2_measure_1 (by decide) (by decide) (by decide) (by decide) ?_
      refine wa_aload_n dX2_measure_37 rfl rfl ?_
      refine wa_getI (q := (RX2, TX2, 9)) (ci := 2) (k := 3) dX2_measure_38 rfl (by decide) wf_X2_34 ha rfl ?_
      exact wa_iret dX2_measure_41 rfl (hQ)
    · refine wa_tableIn (off := 41) (tgt := 42) dX2_measure_1 (by decide) (by decide) (by decide) (by decide) ?_
      refine wa_aload_n dX2_measure_42 rfl rfl ?_
      refine wa_getI (q := (RX2, TX2, 9)) (ci := 2) (k := 0) dX2_measure_43 rfl (by decide) wf_X2_25 ha rfl ?_
      exact wa_iret dX2_measure_46 rfl (hQ)
    · refine wa_tableIn (off := 46) (tgt := 47) dX2_measure_1 (by decide) (by decide) (by decide) (by decide) ?_
      refine wa_aload_n dX2_measure_47 rfl rfl ?_
      refine wa_getI (q := (RX2, TX2, 9)) (ci := 2) (k := 4) dX2_measure_48 rfl (by decide) wf_X2_37 ha rfl ?_
      exact wa_iret dX2_measure_51 rfl (hQ)
  · refine wa_tableOut (tgt := 52) dX2_measure_1 (by omega) (by decide) ?_
    refine wa_iconst (v := 1) dX2_measure_52 (by decide) ?_
    exact wa_iret dX2_measure_53 rfl (by first | (rw [me_out M a (Or.inl (by decide))] at hQ; exact hQ) | (rw [me_out M a (by omega)] at hQ; exact hQ))

theorem k_X2_charge {G : mm_G} {d : Nat} {Q : Option Value → mm_M → Prop} {M : mm_M} {a : Nat} (dy : Int32) (du : Int32) (tr : Int32) (tk : Nat) (ha : mm_sh M a = some (.inl 2)) (hQ : Q none (mm_sR (mm_sI (mm_sI (mm_sI M a 5 dy) a 6 du) a 7 tr) a 8 (some tk))) : ma_ G jX2_charge d 0 0 [.ref a, .int dy, .int du, .int tr, .ref tk] M Q := by
  refine ma_of [some (.ref a), some (.int dy), some (.int du), some (.int tr), some (.ref tk)] (by decide) rfl (Nat.le_of_ble_eq_true rfl) ?_
  refine wa_aload_n dX2_charge_0 rfl rfl ?_
  refine wa_iload_n dX2_charge_1 rfl ?_
  refine wa_put (q := (RX2, TX2, 9)) (ci := 2) (k := 5) dX2_charge_2 rfl (by decide) wf_X2_9 rfl ha rfl ?_
  refine wa_aload_n dX2_charge_5 rfl rfl ?_
  refine wa_iload_n dX2_charge_6 rfl ?_
  refine wa_put (q := (RX2, TX2, 9)) (ci := 2) (k := 6) dX2_charge_7 rfl (by decide) wf_X2_15 rfl ha rfl ?_
  refine wa_aload_n dX2_charge_10 rfl rfl ?_
  refine wa_iload_n dX2_charge_11 rfl ?_
  refine wa_put (q := (RX2, TX2, 9)) (ci := 2) (k := 7) dX2_charge_12 rfl (by decide) wf_X2_18 rfl ha rfl ?_
  refine wa_aload_n dX2_charge_15 rfl rfl ?_
  refine wa_aload dX2_charge_16 rfl rfl ?_
  refine wa_put (q := (RX2, TX2, 9)) (ci := 2) (k := 8) dX2_charge_18 rfl (by decide) wf_X2_21 rfl ha rfl ?_
  exact wa_vret dX2_charge_21 rfl (hQ)

theorem k_X2_stampsOf {G : mm_G} {d : Nat} {Q : Option Value → mm_M → Prop} {M : mm_M} {a : Nat} (w : Nat) (tk : Nat) (ha : mm_sh M a = some (.inl 2)) (hk : mm_R M a 8 = some tk) (htk : mm_sh M tk = some (.inr (0, 5))) (hw : w < 5) (hQ : Q (some (.int (mm_I M tk w))) M) : ma_ G jX2_stampsOf d 0 0 [.ref a, .int (nI w)] M Q := by
  refine ma_of [some (.ref a), some (.int (nI w))] (by decide) rfl (Nat.le_of_ble_eq_true rfl) ?_
  refine wa_aload_n dX2_stampsOf_0 rfl rfl ?_
  refine wa_getR (q := (RX2, TX2, 9)) (ci := 2) (k := 8) dX2_stampsOf_1 rfl (by decide) wf_X2_21 ha rfl (rf_some hk) ?_
  refine wa_ifnullR dX2_stampsOf_4 ?_
  refine wa_iload_n dX2_stampsOf_7 rfl ?_
  refine wa_if_lt (tgt := 29) dX2_stampsOf_8 (by decide) (fun hT8 => absurd hT8 (nI_pos (by omega))) (fun hF8 => ?_)
  refine wa_iload_n dX2_stampsOf_11 rfl ?_
  refine wa_aload_n dX2_stampsOf_12 rfl rfl ?_
  refine wa_getR (q := (RX2, TX2, 9)) (ci := 2) (k := 8) dX2_stampsOf_13 rfl (by decide) wf_X2_21 ha rfl (rf_some hk) ?_
  refine wa_alen dX2_stampsOf_16 htk ?_
  refine wa_icmp_ge (tgt := 29) dX2_stampsOf_17 (by decide) (fun hT17 => absurd hT17 (nI_ge (b := 5) (by omega) (by decide))) (fun hF17 => ?_)
  refine wa_aload_n dX2_stampsOf_20 rfl rfl ?_
  refine wa_getR (q := (RX2, TX2, 9)) (ci := 2) (k := 8) dX2_stampsOf_21 rfl (by decide) wf_X2_21 ha rfl (rf_some hk) ?_
  refine wa_iload_n dX2_stampsOf_24 rfl ?_
  refine wa_ialdN dX2_stampsOf_25 htk (Or.inl rfl) (by omega) (by decide) ?_
  refine wa_goto (tgt := 30) dX2_stampsOf_26 (by decide) ?_
  exact wa_iret dX2_stampsOf_30 rfl (hQ)

theorem k_X2_allStamps {G : mm_G} {d : Nat} {Q : Option Value → mm_M → Prop} {M : mm_M} {a : Nat} (tk : Nat) (w0 : Nat) (hG0 : G.2.2.2.1 0 = .ref w0) (hw0 : mm_sh M w0 = some (.inr (10, 5))) (ha : mm_sh M a = some (.inl 2)) (hkk : mm_R M a 8 = some tk) (htk : mm_sh M tk = some (.inr (0, 5))) (hQ : Q (some (.int (si_ (fun w => mm_I M tk w) 5))) M) : ma_ G jX2_allStamps (d + 1) 0 0 [.ref a] M Q := by
  refine ma_of [some (.ref a), none, none] (by decide) rfl (Nat.le_of_ble_eq_true rfl) ?_
  have lp : ∀ (r k : Nat), 5 - k = r → k ≤ 5 → wa_ 0 G jX2_allStamps (d + 1) 0 0 Q 0 0 M 4 [some (.ref a), some (.int (si_ (fun w => mm_I M tk w) k)), some (.int (nI k))] [] := by
    intro r
    induction r with
    | zero =>
      intro k hr hk
      have hk5 : k = 5 := by omega
      subst hk5
      refine wa_iload_n dX2_allStamps_4 rfl ?_
      refine wa_getsN (k := 0) (host := "ConsulDesk") dX2_allStamps_5 rfl (by decide) hG0 ?_
      refine wa_alen dX2_allStamps_8 hw0 ?_
      refine wa_icmp_ge (tgt := 26) dX2_allStamps_9 (by decide) (fun hT9 => ?_) (fun hF9 => absurd (show Int32.ofNat 5 ≤ nI 5 from Int32.le_refl _) hF9)
      refine wa_iload_n dX2_allStamps_26 rfl ?_
      exact wa_iret dX2_allStamps_27 rfl (hQ)
    | succ r ih =>
      intro k hr hk
      refine wa_iload_n dX2_allStamps_4 rfl ?_
      refine wa_getsN (k := 0) (host := "ConsulDesk") dX2_allStamps_5 rfl (by decide) hG0 ?_
      refine wa_alen dX2_allStamps_8 hw0 ?_
      refine wa_icmp_ge (tgt := 26) dX2_allStamps_9 (by decide) (fun hT9 => absurd hT9 (nI_ge (b := 5) (by omega) (by decide))) (fun hF9 => ?_)
      refine wa_iload_n dX2_allStamps_12 rfl ?_
      refine wa_aload_n dX2_allStamps_13 rfl rfl ?_
      refine wa_iload_n dX2_allStamps_14 rfl ?_
      refine wa_callV (q := (RX2, TX2, 9)) (As := [.int (nI k)]) dX2_allStamps_15 lk_X2_43 rfl rfl ha rfl rfl (Nat.le_of_ble_eq_true rfl) (Nat.le_of_eq (Nat.zero_add _)) (Nat.le_of_eq (Nat.zero_add _)) (k_X2_stampsOf k tk ha hkk htk (by omega) ?_)
      refine wa_iadd dX2_allStamps_18 ?_
      refine wa_istore_n dX2_allStamps_19 (by decide) rfl rfl ?_
      refine wa_iinc (v := nI (k + 1)) dX2_allStamps_20 rfl (ni_i1 k) (by decide) rfl rfl ?_
      refine wa_goto (tgt := 4) dX2_allStamps_23 (by decide) ?_
      exact ih (k + 1) (by omega) (by omega)
  refine wa_iconst (v := 0) dX2_allStamps_0 (by decide) ?_
  refine wa_istore_n dX2_allStamps_1 (by decide) rfl rfl ?_
  refine wa_iconst (v := 0) dX2_allStamps_2 (by decide) ?_
  refine wa_istore_n dX2_allStamps_3 (by decide) rfl rfl ?_
  exact lp 5 0 (by omega) (by omega)

def hs_ (M : mm_M) (e a : Nat) : Bool := if mm_I M e 1 = 60 then decide (me_ M a (mm_I M e 0) < mm_I M e 2) else if mm_I M e 1 = 62 then decide (mm_I M e 2 < me_ M a (mm_I M e 0)) else decide (me_ M a (mm_I M e 0) = mm_I M e 2)
def am_ (M : mm_M) (e a : Nat) : Int32 := if 0 < mm_I M e 2 then mm_I M e 0 * me_ M a (mm_I M e 1) / mm_I M e 2 else mm_I M e 0 * me_ M a (mm_I M e 1)

theorem k_X8_holds {G : mm_G} {d : Nat} {Q : Option Value → mm_M → Prop} {M : mm_M} {e : Nat} (a : Nat) (he : mm_sh M e = some (.inl 8)) (ha : mm_sh M a = some (.inl 2)) (h1 : hs_ M e a = true → Q (some (.int 1)) M) (h0 : hs_ M e a = false → Q (some (.int 0)) M) : ma_ G jX8_holds (d + 1) 0 0 [.ref e, .ref a] M Q := by
  refine ma_of [some (.ref e), some (.ref a), none] (by decide) rfl (Nat.le_of_ble_eq_true rfl) ?_
  refine wa_aload_n dX8_holds_0 rfl rfl ?_
  refine wa_aload_n dX8_holds_1 rfl rfl ?_
  refine wa_getI (q := (RX8, TX8, 3)) (ci := 8) (k := 0) dX8_holds_2 rfl (by decide) wf_X8_7 he rfl ?_
  refine wa_callV (q := (RX2, TX2, 9)) (As := [.int (mm_I M e 0)]) dX8_holds_5 lk_X8_19 rfl rfl ha rfl rfl (Nat.le_of_ble_eq_true rfl) (Nat.le_of_eq (Nat.zero_add _)) (Nat.le_of_eq (Nat.zero_add _)) (k_X2_measure _ ha ?_)
  refine wa_istore_n dX8_holds_8 (by decide) rfl rfl ?_
  refine wa_aload_n dX8_holds_9 rfl rfl ?_
  refine wa_getI (q := (RX8, TX8, 3)) (ci := 8) (k := 1) dX8_holds_10 rfl (by decide) wf_X8_13 he rfl ?_
  refine wa_bipush (v := 60) dX8_holds_13 (by decide) ?_
  refine wa_icmp_ne (tgt := 32) dX8_holds_15 (by decide) (fun hT15 => ?_) (fun hF15 => ?_)
  · refine wa_aload_n dX8_holds_32 rfl rfl ?_
    refine wa_getI (q := (RX8, TX8, 3)) (ci := 8) (k := 1) dX8_holds_33 rfl (by decide) wf_X8_13 he rfl ?_
    refine wa_bipush (v := 62) dX8_holds_36 (by decide) ?_
    refine wa_icmp_ne (tgt := 57) dX8_holds_38 (by decide) (fun hT38 => ?_) (fun hF38 => ?_)
    · refine wa_iload_n dX8_holds_57 rfl ?_
      refine wa_aload_n dX8_holds_58 rfl rfl ?_
      refine wa_getI (q := (RX8, TX8, 3)) (ci := 8) (k := 2) dX8_holds_59 rfl (by decide) wf_X8_16 he rfl ?_
      refine wa_icmp_ne (tgt := 69) dX8_holds_62 (by decide) (fun hT62 => ?_) (fun hF62 => ?_)
      · refine wa_iconst (v := 0) dX8_holds_69 (by decide) ?_
        exact wa_zret dX8_holds_70 rfl rfl (h0 (by unfold hs_; first | (rw [if_pos (by assumption)]; exact decide_eq_false (Int32.not_lt.mpr (by assumption))) | (rw [if_neg (by assumption), if_pos (by assumption)]; exact decide_eq_false (Int32.not_lt.mpr (by assumption))) | (rw [if_neg (by assumption), if_neg (by assumption)]; exact decide_eq_false (by assumption))))
      · refine wa_iconst (v := 1) dX8_holds_65 (by decide) ?_
        refine wa_goto (tgt := 70) dX8_holds_66 (by decide) ?_
        exact wa_zret dX8_holds_70 rfl rfl (h1 (by unfold hs_; first | (rw [if_pos (by assumption)]; exact decide_eq_true (Int32.not_le.mp (by assumption))) | (rw [if_neg (by assumption), if_pos (by assumption)]; exact decide_eq_true (Int32.not_le.mp (by assumption))) | (rw [if_neg (by assumption), if_neg (by assumption)]; exact decide_eq_true (by assumption))))
    · refine wa_iload_n dX8_holds_41 rfl ?_
      refine wa_aload_n dX8_holds_42 rfl rfl ?_
      refine wa_getI (q := (RX8, TX8, 3)) (ci := 8) (k := 2) dX8_holds_43 rfl (by decide) wf_X8_16 he rfl ?_
      refine wa_icmp_le (tgt := 53) dX8_holds_46 (by decide) (fun hT46 => ?_) (fun hF46 => ?_)
      · refine wa_iconst (v := 0) dX8_holds_53 (by decide) ?_
        refine wa_goto (tgt := 70) dX8_holds_54 (by decide) ?_
        exact wa_zret dX8_holds_70 rfl rfl (h0 (by unfold hs_; first | (rw [if_pos (by assumption)]; exact decide_eq_false (Int32.not_lt.mpr (by assumption))) | (rw [if_neg (by assumption), if_pos (by assumption)]; exact decide_eq_false (Int32.not_lt.mpr (by assumption))) | (rw [if_neg (by assumption), if_neg (by assumption)]; exact decide_eq_false (by assumption))))
      · refine wa_iconst (v := 1) dX8_holds_49 (by decide) ?_
        refine wa_goto (tgt := 70) dX8_holds_50 (by decide) ?_
        exact wa_zret dX8_holds_70 rfl rfl (h1 (by unfold hs_; first | (rw [if_pos (by assumption)]; exact decide_eq_true (Int32.not_le.mp (by assumption))) | (rw [if_neg (by assumption), if_pos (by assumption)]; exact decide_eq_true (Int32.not_le.mp (by assumption))) | (rw [if_neg (by assumption), if_neg (by assumption)]; exact decide_eq_true (by assumption))))
  · refine wa_iload_n dX8_holds_18 rfl ?_
    refine wa_aload_n dX8_holds_19 rfl rfl ?_
    refine wa_getI (q := (RX8, TX8, 3)) (ci := 8) (k := 2) dX8_holds_20 rfl (by decide) wf_X8_16 he rfl ?_
    refine wa_icmp_ge (tgt := 30) dX8_holds_23 (by decide) (fun hT23 => ?_) (fun hF23 => ?_)
    · refine wa_iconst (v := 0) dX8_holds_30 (by decide) ?_
      exact wa_zret dX8_holds_31 rfl rfl (h0 (by unfold hs_; first | (rw [if_pos (by assumption)]; exact decide_eq_false (Int32.not_lt.mpr (by assumption))) | (rw [if_neg (by assumption), if_pos (by assumption)]; exact decide_eq_false (Int32.not_lt.mpr (by assumption))) | (rw [if_neg (by assumption), if_neg (by assumption)]; exact decide_eq_false (by assumption))))
    · refine wa_iconst (v := 1) dX8_holds_26 (by decide) ?_
      refine wa_goto (tgt := 31) dX8_holds_27 (by decide) ?_
      exact wa_zret dX8_holds_31 rfl rfl (h1 (by unfold hs_; first | (rw [if_pos (by assumption)]; exact decide_eq_true (Int32.not_le.mp (by assumption))) | (rw [if_neg (by assumption), if_pos (by assumption)]; exact decide_eq_true (Int32.not_le.mp (by assumption))) | (rw [if_neg (by assumption), if_neg (by assumption)]; exact decide_eq_true (by assumption))))

theorem k_X7_amount {G : mm_G} {d : Nat} {Q : Option Value → mm_M → Prop} {M : mm_M} {e : Nat} (a : Nat) (he : mm_sh M e = some (.inl 7)) (ha : mm_sh M a = some (.inl 2)) (hQ : Q (some (.int (am_ M e a))) M) : ma_ G jX7_amount (d + 1) 0 0 [.ref e, .ref a] M Q := by
  refine ma_of [some (.ref e), some (.ref a), none] (by decide) rfl (Nat.le_of_ble_eq_true rfl) ?_
  refine wa_aload_n dX7_amount_0 rfl rfl ?_
  refine wa_getI (q := (RX7, TX7, 3)) (ci := 7) (k := 0) dX7_amount_1 rfl (by decide) wf_X7_7 he rfl ?_
  refine wa_aload_n dX7_amount_4 rfl rfl ?_
  refine wa_aload_n dX7_amount_5 rfl rfl ?_
  refine wa_getI (q := (RX7, TX7, 3)) (ci := 7) (k := 1) dX7_amount_6 rfl (by decide) wf_X7_13 he rfl ?_
  refine wa_callV (q := (RX2, TX2, 9)) (As := [.int (mm_I M e 1)]) dX7_amount_9 lk_X7_19 rfl rfl ha rfl rfl (Nat.le_of_ble_eq_true rfl) (Nat.le_of_eq (Nat.zero_add _)) (Nat.le_of_eq (Nat.zero_add _)) (k_X2_measure _ ha ?_)
  refine wa_imul dX7_amount_12 ?_
  refine wa_istore_n dX7_amount_13 (by decide) rfl rfl ?_
  refine wa_aload_n dX7_amount_14 rfl rfl ?_
  refine wa_getI (q := (RX7, TX7, 3)) (ci := 7) (k := 2) dX7_amount_15 rfl (by decide) wf_X7_16 he rfl ?_
  refine wa_if_le (tgt := 30) dX7_amount_18 (by decide) (fun hT18 => ?_) (fun hF18 => ?_)
  · refine wa_iload_n dX7_amount_30 rfl ?_
    exact wa_iret dX7_amount_31 rfl (by unfold am_ at hQ; first | (rw [if_pos (Int32.not_le.mp (by assumption))] at hQ; exact hQ) | (rw [if_neg (Int32.not_lt.mpr (by assumption))] at hQ; exact hQ))
  · refine wa_iload_n dX7_amount_21 rfl ?_
    refine wa_aload_n dX7_amount_22 rfl rfl ?_
    refine wa_getI (q := (RX7, TX7, 3)) (ci := 7) (k := 2) dX7_amount_23 rfl (by decide) wf_X7_16 he rfl ?_
    refine wa_idiv dX7_amount_26 (fun z => by rw [z] at hF18; exact absurd hF18 (by decide)) ?_
    refine wa_goto (tgt := 31) dX7_amount_27 (by decide) ?_
    exact wa_iret dX7_amount_31 rfl (by unfold am_ at hQ; first | (rw [if_pos (Int32.not_le.mp (by assumption))] at hQ; exact hQ) | (rw [if_neg (Int32.not_lt.mpr (by assumption))] at hQ; exact hQ))

def cf_ (M : mm_M) (e a : Nat) : Nat → Bool
  | 0 => true
  | k + 1 => cf_ M e a k && match mm_R M (e + 1) k with
    | none => true
    | some t => hs_ M t a
def cs_ (M : mm_M) (e a : Nat) : Nat → Int32
  | 0 => 0
  | k + 1 => match mm_R M (e + 2) k with
    | none => cs_ M e a k
    | some t => cs_ M e a k + am_ M t a
theorem cf_mono {M : mm_M} {e a : Nat} : ∀ (r k : Nat), cf_ M e a k = false → cf_ M e a (k + r) = false := by
  intro r
  induction r with
  | zero => intro k h; exact h
  | succ r ih =>
    intro k h
    show (cf_ M e a (k + r) && _) = false
    rw [ih k h]
    rfl
/-- a line with its tests and terms -/
def lnw_ (M : mm_M) (e : Nat) : Prop := lin_ M e ∧ (∀ k, k < 4 → mm_R M (e + 1) k = none ∨ ∃ t, mm_R M (e + 1) k = some t ∧ mm_sh M t = some (.inl 8)) ∧ ∀ k, k < 4 → mm_R M (e + 2) k = none ∨ ∃ t, mm_R M (e + 2) k = some t ∧ mm_sh M t = some (.inl 7)

theorem k_X1_fits {G : mm_G} {d : Nat} {Q : Option Value → mm_M → Prop} {M : mm_M} {e : Nat} (a : Nat) (hl : lnw_ M e) (ha : mm_sh M a = some (.inl 2)) (h1 : mm_I M a 1 = mm_I M e 0 → cf_ M e a 4 = true → Q (some (.int 1)) M) (h0 : ¬ mm_I M a 1 = mm_I M e 0 ∨ cf_ M e a 4 = false → Q (some (.int 0)) M) : ma_ G jX1_fits (d + 2) 0 0 [.ref e, .ref a] M Q := by
  refine ma_of [some (.ref e), some (.ref a), none, none] (by decide) rfl (Nat.le_of_ble_eq_true rfl) ?_
  have lp : mm_I M a 1 = mm_I M e 0 → ∀ (r k : Nat), 4 - k = r → k ≤ 4 → cf_ M e a k = true → wa_ 0 G jX1_fits (d + 2) 0 0 Q 0 0 M 15 [some (.ref e), some (.ref a), some (.int (nI k)), none] [] := by
    intro hkind r
    induction r with
    | zero =>
      intro k hr hk hc
      have hk4 : k = 4 := by omega
      subst hk4
      refine wa_iload_n dX1_fits_15 rfl ?_
      refine wa_aload_n dX1_fits_16 rfl rfl ?_
      refine wa_getR (q := (RX1, TX1, 3)) (ci := 1) (k := 1) dX1_fits_17 rfl (by decide) wf_X1_11 hl.1.1 rfl (lin_r1 hl.1) ?_
      refine wa_alen dX1_fits_20 (lin_s1 hl.1) ?_
      refine wa_icmp_ge (tgt := 51) dX1_fits_21 (by decide) (fun hT21 => ?_) (fun hF21 => absurd (show Int32.ofNat 4 ≤ nI 4 from Int32.le_refl _) hF21)
      refine wa_iconst (v := 1) dX1_fits_51 (by decide) ?_
      exact wa_zret dX1_fits_52 rfl rfl (h1 hkind hc)
    | succ r ih =>
      intro k hr hk hc
      refine wa_iload_n dX1_fits_15 rfl ?_
      refine wa_aload_n dX1_fits_16 rfl rfl ?_
      refine wa_getR (q := (RX1, TX1, 3)) (ci := 1) (k := 1) dX1_fits_17 rfl (by decide) wf_X1_11 hl.1.1 rfl (lin_r1 hl.1) ?_
      refine wa_alen dX1_fits_20 (lin_s1 hl.1) ?_
      refine wa_icmp_ge (tgt := 51) dX1_fits_21 (by decide) (fun hT21 => absurd hT21 (nI_ge (b := 4) (by omega) (by decide))) (fun hF21 => ?_)
      refine wa_aload_n dX1_fits_24 rfl rfl ?_
      refine wa_getR (q := (RX1, TX1, 3)) (ci := 1) (k := 1) dX1_fits_25 rfl (by decide) wf_X1_11 hl.1.1 rfl (lin_r1 hl.1) ?_
      refine wa_iload_n dX1_fits_28 rfl ?_
      rcases hl.2.1 k (by omega) with hR | ⟨t, hR, hE⟩
      · refine wa_aaldN dX1_fits_29 (lin_s1 hl.1) (by decide) (by decide) (by omega) (by decide) (rf_none hR) ?_
        refine wa_astore_n dX1_fits_30 (by decide) rfl rfl rfl ?_
        refine wa_aload_n dX1_fits_31 rfl rfl ?_
        refine wa_ifnullN (tgt := 45) dX1_fits_32 (by decide) ?_
        refine wa_iinc (v := nI (k + 1)) dX1_fits_45 rfl (ni_i1 k) (by decide) rfl rfl ?_
        refine wa_goto (tgt := 15) dX1_fits_48 (by decide) ?_
        refine wa_set0 3 ?_
        exact ih (k + 1) (by omega) (by omega) (by simp only [cf_, hc, hR, Bool.true_and] <;> first | rfl | exact hH)
      · refine wa_aaldN dX1_fits_29 (lin_s1 hl.1) (by decide) (by decide) (by omega) (by decide) (rf_some hR) ?_
        refine wa_astore_n dX1_fits_30 (by decide) rfl rfl rfl ?_
        refine wa_aload_n dX1_fits_31 rfl rfl ?_
        refine wa_ifnullR dX1_fits_32 ?_
        refine wa_aload_n dX1_fits_35 rfl rfl ?_
        refine wa_aload_n dX1_fits_36 rfl rfl ?_
        refine wa_callV (q := (RX8, TX8, 3)) (As := [.ref a]) dX1_fits_37 lk_X1_30 rfl rfl hE rfl rfl (Nat.le_of_ble_eq_true rfl) (Nat.le_of_eq (Nat.zero_add _)) (Nat.le_of_eq (Nat.zero_add _)) (k_X8_holds a hE ha (fun hH => ?_) (fun hH => ?_))
        · refine wa_if_ne (tgt := 45) dX1_fits_40 (by decide) (fun _ => ?_) (fun h9 => absurd h9 (by decide))
          refine wa_iinc (v := nI (k + 1)) dX1_fits_45 rfl (ni_i1 k) (by decide) rfl rfl ?_
          refine wa_goto (tgt := 15) dX1_fits_48 (by decide) ?_
          refine wa_set0 3 ?_
          exact ih (k + 1) (by omega) (by omega) (by simp only [cf_, hc, hR, Bool.true_and] <;> first | rfl | exact hH)
        · refine wa_if_ne (tgt := 45) dX1_fits_40 (by decide) (fun h9 => absurd h9 (by decide)) (fun _ => ?_)
          refine wa_iconst (v := 0) dX1_fits_43 (by decide) ?_
          exact wa_zret dX1_fits_44 rfl rfl (h0 (Or.inr (by have := cf_mono (4 - (k + 1)) (k + 1) (show cf_ M e a (k + 1) = false from by simp only [cf_, hc, hR, hH]; rfl); rw [show k + 1 + (4 - (k + 1)) = 4 from by omega] at this; exact this)))
  refine wa_aload_n dX1_fits_0 rfl rfl ?_
  refine wa_getI (q := (RX2, TX2, 9)) (ci := 2) (k := 1) dX1_fits_1 rfl (by decide) wf_X1_27 ha rfl ?_
  refine wa_aload_n dX1_fits_4 rfl rfl ?_
  refine wa_getI (q := (RX1, TX1, 3)) (ci := 1) (k := 0) dX1_fits_5 rfl (by decide) wf_X1_23 hl.1.1 rfl ?_
  refine wa_icmp_eq (tgt := 13) dX1_fits_8 (by decide) (fun hT8 => ?_) (fun hF8 => ?_)
  · refine wa_iconst (v := 0) dX1_fits_13 (by decide) ?_
    refine wa_istore_n dX1_fits_14 (by decide) rfl rfl ?_
    exact lp hT8 4 0 (by omega) (by omega) rfl
  · refine wa_iconst (v := 0) dX1_fits_11 (by decide) ?_
    exact wa_zret dX1_fits_12 rfl rfl (h0 (Or.inl hF8))

theorem k_X1_total {G : mm_G} {d : Nat} {Q : Option Value → mm_M → Prop} {M : mm_M} {e : Nat} (a : Nat) (hl : lnw_ M e) (ha : mm_sh M a = some (.inl 2)) (hQ : Q (some (.int (md_cap (cs_ M e a 4)))) M) : ma_ G jX1_total (d + 2) 0 0 [.ref e, .ref a] M Q := by
  refine ma_of [some (.ref e), some (.ref a), none, none, none] (by decide) rfl (Nat.le_of_ble_eq_true rfl) ?_
  have lp : ∀ (r k : Nat), 4 - k = r → k ≤ 4 → wa_ 0 G jX1_total (d + 2) 0 0 Q 0 0 M 4 [some (.ref e), some (.ref a), some (.int (cs_ M e a k)), some (.int (nI k)), none] [] := by
    intro r
    induction r with
    | zero =>
      intro k hr hk
      have hk4 : k = 4 := by omega
      subst hk4
      refine wa_iload_n dX1_total_4 rfl ?_
      refine wa_aload_n dX1_total_5 rfl rfl ?_
      refine wa_getR (q := (RX1, TX1, 3)) (ci := 1) (k := 2) dX1_total_6 rfl (by decide) wf_X1_19 hl.1.1 rfl (lin_r2 hl.1) ?_
      refine wa_alen dX1_total_9 (lin_s2 hl.1) ?_
      refine wa_icmp_ge (tgt := 41) dX1_total_10 (by decide) (fun hT10 => ?_) (fun hF10 => absurd (show Int32.ofNat 4 ≤ nI 4 from Int32.le_refl _) hF10)
      refine wa_iload_n dX1_total_41 rfl ?_
      refine wa_sipush (v := 5000) dX1_total_42 (by decide) ?_
      refine wa_mmin dX1_total_45 lk_X1_38 (Nat.le_of_ble_eq_true rfl) ?_
      exact wa_iret dX1_total_48 rfl (hQ)
    | succ r ih =>
      intro k hr hk
      refine wa_iload_n dX1_total_4 rfl ?_
      refine wa_aload_n dX1_total_5 rfl rfl ?_
      refine wa_getR (q := (RX1, TX1, 3)) (ci := 1) (k := 2) dX1_total_6 rfl (by decide) wf_X1_19 hl.1.1 rfl (lin_r2 hl.1) ?_
      refine wa_alen dX1_total_9 (lin_s2 hl.1) ?_
      refine wa_icmp_ge (tgt := 41) dX1_total_10 (by decide) (fun hT10 => absurd hT10 (nI_ge (b := 4) (by omega) (by decide))) (fun hF10 => ?_)
      refine wa_aload_n dX1_total_13 rfl rfl ?_
      refine wa_getR (q := (RX1, TX1, 3)) (ci := 1) (k := 2) dX1_total_14 rfl (by decide) wf_X1_19 hl.1.1 rfl (lin_r2 hl.1) ?_
      refine wa_iload_n dX1_total_17 rfl ?_
      rcases hl.2.2 k (by omega) with hR | ⟨t, hR, hE⟩
      · refine wa_aaldN dX1_total_18 (lin_s2 hl.1) (by decide) (by decide) (by omega) (by decide) (rf_none hR) ?_
        refine wa_astore dX1_total_19 (by decide) rfl rfl rfl ?_
        refine wa_aload dX1_total_21 rfl rfl ?_
        refine wa_ifnullN (tgt := 35) dX1_total_23 (by decide) ?_
        refine wa_iinc (v := nI (k + 1)) dX1_total_35 rfl (ni_i1 k) (by decide) rfl rfl ?_
        refine wa_goto (tgt := 4) dX1_total_38 (by decide) ?_
        refine wa_set0 4 ?_
        have ih9 := ih (k + 1) (by omega) (by omega)
        simp only [cs_, hR] at ih9
        exact ih9
      · refine wa_aaldN dX1_total_18 (lin_s2 hl.1) (by decide) (by decide) (by omega) (by decide) (rf_some hR) ?_
        refine wa_astore dX1_total_19 (by decide) rfl rfl rfl ?_
        refine wa_aload dX1_total_21 rfl rfl ?_
        refine wa_ifnullR dX1_total_23 ?_
        refine wa_iload_n dX1_total_26 rfl ?_
        refine wa_aload dX1_total_27 rfl rfl ?_
        refine wa_aload_n dX1_total_29 rfl rfl ?_
        refine wa_callV (q := (RX7, TX7, 3)) (As := [.ref a]) dX1_total_30 lk_X1_34 rfl rfl hE rfl rfl (Nat.le_of_ble_eq_true rfl) (Nat.le_of_eq (Nat.zero_add _)) (Nat.le_of_eq (Nat.zero_add _)) (k_X7_amount a hE ha ?_)
        refine wa_iadd dX1_total_33 ?_
        refine wa_istore_n dX1_total_34 (by decide) rfl rfl ?_
        refine wa_iinc (v := nI (k + 1)) dX1_total_35 rfl (ni_i1 k) (by decide) rfl rfl ?_
        refine wa_goto (tgt := 4) dX1_total_38 (by decide) ?_
        refine wa_set0 4 ?_
        have ih9 := ih (k + 1) (by omega) (by omega)
        simp only [cs_, hR] at ih9
        exact ih9
  refine wa_iconst (v := 0) dX1_total_0 (by decide) ?_
  refine wa_istore_n dX1_total_1 (by decide) rfl rfl ?_
  refine wa_iconst (v := 0) dX1_total_2 (by decide) ?_
  refine wa_istore_n dX1_total_3 (by decide) rfl rfl ?_
  exact lp 4 0 (by omega) (by omega)

/-- a tariff's fee of a paper -/
def fo_ (M : mm_M) (la a : Nat) : Nat → Nat → Int32
  | 0, _ => -2
  | r + 1, i => match mm_R M la i with
    | none => fo_ M la a r (i + 1)
    | some e => if mm_I M a 1 = mm_I M e 0 ∧ cf_ M e a 4 = true then md_cap (cs_ M e a 4) else fo_ M la a r (i + 1)
def trw_ (M : mm_M) (t la : Nat) : Prop := mm_sh M t = some (.inl 6) ∧ mm_R M t 1 = some la ∧ mm_sh M la = some (.inr (4, 12)) ∧ ∀ i, i < 12 → mm_R M la i = none ∨ ∃ e, mm_R M la i = some e ∧ lnw_ M e

theorem k_X6_feeOf {G : mm_G} {d : Nat} {Q : Option Value → mm_M → Prop} {M : mm_M} {t : Nat} (a : Nat) (la : Nat) (ht : trw_ M t la) (ha : mm_sh M a = some (.inl 2)) (hQ : Q (some (.int (fo_ M la a 12 0))) M) : ma_ G jX6_feeOf (d + 3) 0 0 [.ref t, .ref a] M Q := by
  refine ma_of [some (.ref t), some (.ref a), none, none] (by decide) rfl (Nat.le_of_ble_eq_true rfl) ?_
  have lp : ∀ (r i : Nat), 12 - i = r → i ≤ 12 → Q (some (.int (fo_ M la a r i))) M → wa_ 0 G jX6_feeOf (d + 3) 0 0 Q 0 0 M 2 [some (.ref t), some (.ref a), some (.int (nI i)), none] [] := by
    intro r
    induction r with
    | zero =>
      intro i hr hi hq
      have hi12 : i = 12 := by omega
      subst hi12
      refine wa_iload_n dX6_feeOf_2 rfl ?_
      refine wa_aload_n dX6_feeOf_3 rfl rfl ?_
      refine wa_getR (q := (RX6, TX6, 2)) (ci := 6) (k := 1) dX6_feeOf_4 rfl (by decide) wf_X6_15 ht.1 rfl (rf_some ht.2.1) ?_
      refine wa_alen dX6_feeOf_7 ht.2.2.1 ?_
      refine wa_icmp_ge (tgt := 42) dX6_feeOf_8 (by decide) (fun hT8 => ?_) (fun hF8 => absurd (show Int32.ofNat 12 ≤ nI 12 from Int32.le_refl _) hF8)
      refine wa_bipush (v := -2) dX6_feeOf_42 (by decide) ?_
      exact wa_iret dX6_feeOf_44 rfl (hq)
    | succ r ih =>
      intro i hr hi hq
      refine wa_iload_n dX6_feeOf_2 rfl ?_
      refine wa_aload_n dX6_feeOf_3 rfl rfl ?_
      refine wa_getR (q := (RX6, TX6, 2)) (ci := 6) (k := 1) dX6_feeOf_4 rfl (by decide) wf_X6_15 ht.1 rfl (rf_some ht.2.1) ?_
      refine wa_alen dX6_feeOf_7 ht.2.2.1 ?_
      refine wa_icmp_ge (tgt := 42) dX6_feeOf_8 (by decide) (fun hT8 => absurd hT8 (nI_ge (b := 12) (by omega) (by decide))) (fun hF8 => ?_)
      refine wa_aload_n dX6_feeOf_11 rfl rfl ?_
      refine wa_getR (q := (RX6, TX6, 2)) (ci := 6) (k := 1) dX6_feeOf_12 rfl (by decide) wf_X6_15 ht.1 rfl (rf_some ht.2.1) ?_
      refine wa_iload_n dX6_feeOf_15 rfl ?_
      rcases ht.2.2.2 i (by omega) with hR | ⟨e, hR, hL⟩ <;> simp only [fo_, hR] at hq
      · refine wa_aaldN dX6_feeOf_16 ht.2.2.1 (by decide) (by decide) (by omega) (by decide) (rf_none hR) ?_
        refine wa_astore_n dX6_feeOf_17 (by decide) rfl rfl rfl ?_
        refine wa_aload_n dX6_feeOf_18 rfl rfl ?_
        refine wa_ifnullN (tgt := 36) dX6_feeOf_19 (by decide) ?_
        refine wa_iinc (v := nI (i + 1)) dX6_feeOf_36 rfl (ni_i1 i) (by decide) rfl rfl ?_
        refine wa_goto (tgt := 2) dX6_feeOf_39 (by decide) ?_
        refine wa_set0 3 ?_
        exact ih (i + 1) (by omega) (by omega) (by first | exact hq | (rw [if_neg (fun z => by first | exact absurd z.1 (by assumption) | (rcases hN with h | h; exact absurd z.1 h; rw [h] at z; exact absurd z.2 (by decide)))] at hq; exact hq))
      · refine wa_aaldN dX6_feeOf_16 ht.2.2.1 (by decide) (by decide) (by omega) (by decide) (rf_some hR) ?_
        refine wa_astore_n dX6_feeOf_17 (by decide) rfl rfl rfl ?_
        refine wa_aload_n dX6_feeOf_18 rfl rfl ?_
        refine wa_ifnullR dX6_feeOf_19 ?_
        refine wa_aload_n dX6_feeOf_22 rfl rfl ?_
        refine wa_aload_n dX6_feeOf_23 rfl rfl ?_
        refine wa_callV (q := (RX1, TX1, 3)) (As := [.ref a]) dX6_feeOf_24 lk_X6_19 rfl rfl hL.1.1 rfl rfl (Nat.le_of_ble_eq_true rfl) (Nat.le_of_eq (Nat.zero_add _)) (Nat.le_of_eq (Nat.zero_add _)) (k_X1_fits a hL ha (fun hA hB => ?_) (fun hN => ?_))
        · refine wa_if_eq (tgt := 36) dX6_feeOf_27 (by decide) (fun h9 => absurd h9 (by decide)) (fun _ => ?_)
          refine wa_aload_n dX6_feeOf_30 rfl rfl ?_
          refine wa_aload_n dX6_feeOf_31 rfl rfl ?_
          refine wa_callV (q := (RX1, TX1, 3)) (As := [.ref a]) dX6_feeOf_32 lk_X6_25 rfl rfl hL.1.1 rfl rfl (Nat.le_of_ble_eq_true rfl) (Nat.le_of_eq (Nat.zero_add _)) (Nat.le_of_eq (Nat.zero_add _)) (k_X1_total a hL ha ?_)
          exact wa_iret dX6_feeOf_35 rfl (by rw [if_pos ⟨hA, hB⟩] at hq; exact hq)
        · refine wa_if_eq (tgt := 36) dX6_feeOf_27 (by decide) (fun _ => ?_) (fun h9 => absurd h9 (by decide))
          refine wa_iinc (v := nI (i + 1)) dX6_feeOf_36 rfl (ni_i1 i) (by decide) rfl rfl ?_
          refine wa_goto (tgt := 2) dX6_feeOf_39 (by decide) ?_
          refine wa_set0 3 ?_
          exact ih (i + 1) (by omega) (by omega) (by first | exact hq | (rw [if_neg (fun z => by first | exact absurd z.1 (by assumption) | (rcases hN with h | h; exact absurd z.1 h; rw [h] at z; exact absurd z.2 (by decide)))] at hq; exact hq))
  refine wa_iconst (v := 0) dX6_feeOf_0 (by decide) ?_
  refine wa_istore_n dX6_feeOf_1 (by decide) rfl rfl ?_
  exact lp 12 0 (by omega) (by omega) hQ
