theorem ct_n0 {c : Nat → Bool} {t A : Nat} (h : c t = false) : nI (A + ct_ c t) = nI (A + ct_ c (t + 1)) := by
  show nI _ = nI (A + (ct_ c t + if c t then 1 else 0))
  rw [h]
  rfl

theorem k_X3_onTheWay {G : mm_G} {d : Nat} {Q : Option Value → mm_M → Prop} {M : mm_M} {p : Nat} (w : Int32) (td : Int32) (n : Nat) (hp : prt_ M p) (hS : mm_I M p 5 = nI n) (hn : n ≤ 30) (h0 : w = nI 0 → Q (some (.int (nI (0 + ct_ (po_ M p n td) n)))) M) (h1 : w = nI 1 → Q (some (.int (nI (0 + ct_ (pk_o M p n td) n)))) M) (h2 : w = nI 2 → Q (some (.int (ab_ td - ab_ (mm_I M p 1) - (if 0 < ab_ (td - mm_I M p 0 + 1) - ab_ (mm_I M p 1) then ab_ (td - mm_I M p 0 + 1) - ab_ (mm_I M p 1) else 0)))) M) (hw : w = nI 0 ∨ w = nI 1 ∨ w = nI 2) : ma_ G jX3_onTheWay (d + 4) 0 0 [.ref p, .int w, .int td] M Q := by
  refine ma_of [some (.ref p), some (.int w), some (.int td), none, none] (by decide) rfl (Nat.le_of_ble_eq_true rfl) ?_
  have lp0 : Q (some (.int (nI (0 + ct_ (po_ M p n td) n)))) M → ∀ (r k : Nat), n - k = r → k ≤ n → wa_ 0 G jX3_onTheWay (d + 4) 0 0 Q 0 0 M 22 [some (.ref p), some (.int (nI 0)), some (.int td), some (.int (nI (0 + ct_ (po_ M p n td) k))), some (.int (nI k))] [] := by
    intro hq r
    induction r with
    | zero =>
      intro k hr hk
      have hkn : k = n := by omega
      subst hkn
      refine wa_iload dX3_onTheWay_22 rfl ?_
      refine wa_aload_n dX3_onTheWay_24 rfl rfl ?_
      refine wa_getI (q := (RX3, TX3, 8)) (ci := 3) (k := 5) dX3_onTheWay_25 rfl (by decide) wf_X3_25 hp.1 rfl ?_
      rw [hS]
      refine wa_icmp_ge (tgt := 67) dX3_onTheWay_28 (by decide) (fun hT28 => ?_) (fun hF28 => absurd (nI_le (Nat.le_refl _) (by omega)) hF28)
      refine wa_iload_n dX3_onTheWay_67 rfl ?_
      exact wa_iret dX3_onTheWay_68 rfl (hq)
    | succ r ih =>
      intro k hr hk
      have ih9 := ih (k + 1) (by omega) (by omega)
      refine wa_iload dX3_onTheWay_22 rfl ?_
      refine wa_aload_n dX3_onTheWay_24 rfl rfl ?_
      refine wa_getI (q := (RX3, TX3, 8)) (ci := 3) (k := 5) dX3_onTheWay_25 rfl (by decide) wf_X3_25 hp.1 rfl ?_
      rw [hS]
      refine wa_icmp_ge (tgt := 67) dX3_onTheWay_28 (by decide) (fun hT28 => absurd hT28 (nI_ge (by omega) (by omega))) (fun hF28 => ?_)
      refine wa_iload_n dX3_onTheWay_31 rfl ?_
      refine wa_if_ne (tgt := 48) dX3_onTheWay_32 (by decide) (fun h9 => absurd h9 (by decide)) (fun _ => ?_)
      refine wa_aload_n dX3_onTheWay_35 rfl rfl ?_
      refine wa_iload dX3_onTheWay_36 rfl ?_
      refine wa_iload_n dX3_onTheWay_38 rfl ?_
      refine wa_callV (q := (RX3, TX3, 8)) (As := [.int (nI k), .int td]) dX3_onTheWay_39 lk_X3_59 rfl rfl hp.1 rfl rfl (Nat.le_of_ble_eq_true rfl) (Nat.le_of_eq (Nat.zero_add _)) (Nat.le_of_eq (Nat.zero_add _)) (k_X3_isOut k td n hp hS hn (by omega) (fun hE => ?_) (fun hE => ?_))
      · refine wa_if_eq (tgt := 61) dX3_onTheWay_42 (by decide) (fun h9 => absurd h9 (by decide)) (fun _ => ?_)
        refine wa_goto (tgt := 58) dX3_onTheWay_45 (by decide) ?_
        refine wa_iinc (v := nI (0 + ct_ (po_ M p n td) (k + 1))) dX3_onTheWay_58 rfl (ct_s1 hE) (by decide) rfl rfl ?_
        refine wa_iinc (v := nI (k + 1)) dX3_onTheWay_61 rfl (ni_i1 k) (by decide) rfl rfl ?_
        refine wa_goto (tgt := 22) dX3_onTheWay_64 (by decide) ?_
        first | exact ih9 | (rw [← ct_n0 hE] at ih9; exact ih9)
      · refine wa_if_eq (tgt := 61) dX3_onTheWay_42 (by decide) (fun _ => ?_) (fun h9 => absurd h9 (by decide))
        refine wa_iinc (v := nI (k + 1)) dX3_onTheWay_61 rfl (ni_i1 k) (by decide) rfl rfl ?_
        refine wa_goto (tgt := 22) dX3_onTheWay_64 (by decide) ?_
        first | exact ih9 | (rw [← ct_n0 hE] at ih9; exact ih9)
  have lp1 : Q (some (.int (nI (0 + ct_ (pk_o M p n td) n)))) M → ∀ (r k : Nat), n - k = r → k ≤ n → wa_ 0 G jX3_onTheWay (d + 4) 0 0 Q 0 0 M 22 [some (.ref p), some (.int (nI 1)), some (.int td), some (.int (nI (0 + ct_ (pk_o M p n td) k))), some (.int (nI k))] [] := by
    intro hq r
    induction r with
    | zero =>
      intro k hr hk
      have hkn : k = n := by omega
      subst hkn
      refine wa_iload dX3_onTheWay_22 rfl ?_
      refine wa_aload_n dX3_onTheWay_24 rfl rfl ?_
      refine wa_getI (q := (RX3, TX3, 8)) (ci := 3) (k := 5) dX3_onTheWay_25 rfl (by decide) wf_X3_25 hp.1 rfl ?_
      rw [hS]
      refine wa_icmp_ge (tgt := 67) dX3_onTheWay_28 (by decide) (fun hT28 => ?_) (fun hF28 => absurd (nI_le (Nat.le_refl _) (by omega)) hF28)
      refine wa_iload_n dX3_onTheWay_67 rfl ?_
      exact wa_iret dX3_onTheWay_68 rfl (hq)
    | succ r ih =>
      intro k hr hk
      have ih9 := ih (k + 1) (by omega) (by omega)
      refine wa_iload dX3_onTheWay_22 rfl ?_
      refine wa_aload_n dX3_onTheWay_24 rfl rfl ?_
      refine wa_getI (q := (RX3, TX3, 8)) (ci := 3) (k := 5) dX3_onTheWay_25 rfl (by decide) wf_X3_25 hp.1 rfl ?_
      rw [hS]
      refine wa_icmp_ge (tgt := 67) dX3_onTheWay_28 (by decide) (fun hT28 => absurd hT28 (nI_ge (by omega) (by omega))) (fun hF28 => ?_)
      refine wa_iload_n dX3_onTheWay_31 rfl ?_
      refine wa_if_ne (tgt := 48) dX3_onTheWay_32 (by decide) (fun _ => ?_) (fun h9 => absurd h9 (by decide))
      refine wa_aload_n dX3_onTheWay_48 rfl rfl ?_
      refine wa_iload dX3_onTheWay_49 rfl ?_
      refine wa_iload_n dX3_onTheWay_51 rfl ?_
      refine wa_callV (q := (RX3, TX3, 8)) (As := [.int (nI k), .int td]) dX3_onTheWay_52 lk_X3_63 rfl rfl hp.1 rfl rfl (Nat.le_of_ble_eq_true rfl) (Nat.le_of_eq (Nat.zero_add _)) (Nat.le_of_eq (Nat.zero_add _)) (k_X3_isAskOut k td n hp hS hn (by omega) (fun hE => ?_) (fun hE => ?_))
      · refine wa_if_eq (tgt := 61) dX3_onTheWay_55 (by decide) (fun h9 => absurd h9 (by decide)) (fun _ => ?_)
        refine wa_iinc (v := nI (0 + ct_ (pk_o M p n td) (k + 1))) dX3_onTheWay_58 rfl (ct_s1 hE) (by decide) rfl rfl ?_
        refine wa_iinc (v := nI (k + 1)) dX3_onTheWay_61 rfl (ni_i1 k) (by decide) rfl rfl ?_
        refine wa_goto (tgt := 22) dX3_onTheWay_64 (by decide) ?_
        first | exact ih9 | (rw [← ct_n0 hE] at ih9; exact ih9)
      · refine wa_if_eq (tgt := 61) dX3_onTheWay_55 (by decide) (fun _ => ?_) (fun h9 => absurd h9 (by decide))
        refine wa_iinc (v := nI (k + 1)) dX3_onTheWay_61 rfl (ni_i1 k) (by decide) rfl rfl ?_
        refine wa_goto (tgt := 22) dX3_onTheWay_64 (by decide) ?_
        first | exact ih9 | (rw [← ct_n0 hE] at ih9; exact ih9)
  refine wa_iload_n dX3_onTheWay_0 rfl ?_
  refine wa_iconst (v := 2) dX3_onTheWay_1 (by decide) ?_
  refine wa_icmp_ne (tgt := 17) dX3_onTheWay_2 (by decide) (fun hT2 => ?_) (fun hF2 => ?_)
  · refine wa_iconst (v := 0) dX3_onTheWay_17 (by decide) ?_
    refine wa_istore_n dX3_onTheWay_18 (by decide) rfl rfl ?_
    refine wa_iconst (v := 0) dX3_onTheWay_19 (by decide) ?_
    refine wa_istore dX3_onTheWay_20 (by decide) rfl rfl ?_
    rcases hw with rfl | rfl | rfl
    · exact lp0 (h0 rfl) n 0 (by omega) (by omega)
    · exact lp1 (h1 rfl) n 0 (by omega) (by omega)
    · exact absurd rfl hT2
  · refine wa_aload_n dX3_onTheWay_5 rfl rfl ?_
    refine wa_iload_n dX3_onTheWay_6 rfl ?_
    refine wa_callV (q := (RX3, TX3, 8)) (As := [.int td]) dX3_onTheWay_7 lk_X3_52 rfl rfl hp.1 rfl rfl (Nat.le_of_ble_eq_true rfl) (Nat.le_of_eq (Nat.zero_add _)) (Nat.le_of_eq (Nat.zero_add _)) (k_X3_accountsSent td hp ?_)
    refine wa_aload_n dX3_onTheWay_10 rfl rfl ?_
    refine wa_iload_n dX3_onTheWay_11 rfl ?_
    refine wa_callV (q := (RX3, TX3, 8)) (As := [.int td]) dX3_onTheWay_12 lk_X3_56 rfl rfl hp.1 rfl rfl (Nat.le_of_ble_eq_true rfl) (Nat.le_of_eq (Nat.zero_add _)) (Nat.le_of_eq (Nat.zero_add _)) (k_X3_accountsCome td hp ?_)
    refine wa_isub dX3_onTheWay_15 ?_
    exact wa_iret dX3_onTheWay_16 rfl (h2 hF2)

/-- stamps leave a port's stock -/
def pb_ (M : mm_M) (p a : Nat) : Nat → mm_M
  | 0 => M
  | k + 1 => mm_sI (pb_ M p a k) (p + 1) k (mm_I (pb_ M p a k) (p + 1) k + -mm_I M a k)
theorem pb_sk (M : mm_M) (p a k : Nat) : md_sk M (pb_ M p a k) := by
  induction k with
  | zero => exact md_sk_rf M
  | succ k ih => exact ih
theorem pb_ne (M : mm_M) (p a k b j : Nat) (h : b ≠ p + 1) : mm_I (pb_ M p a k) b j = mm_I M b j := by
  induction k with
  | zero => rfl
  | succ k ih =>
    show mm_I (mm_sI _ _ _ _) b j = _
    rw [mm_I_sI, if_neg (fun z => h z.1)]
    exact ih
theorem md_sk_prt {M M' : mm_M} {y : Nat} (h : md_sk M M') (hY : prt_ M y) : prt_ M' y := by
  obtain ⟨M1, MI, M2⟩ := M
  obtain ⟨N1, NI, N2⟩ := M'
  obtain ⟨h1, h2⟩ := h
  cases h1
  cases h2
  exact hY
theorem md_sk_sh {M M' : mm_M} (h : md_sk M M') (a : Nat) : mm_sh M' a = mm_sh M a := by
  show M'.1 a = M.1 a
  rw [h.1]

theorem k_X3_book {G : mm_G} {d : Nat} {Q : Option Value → mm_M → Prop} {M : mm_M} {p : Nat} (v : Int32) (a : Nat) (hp : prt_ M p) (ha : mm_sh M a = some (.inr (0, 5))) (hap : a ≠ p + 1) (hQ : Q none (pb_ (mm_sI (mm_sI M p 6 (mm_I M p 6 + v)) p 7 (mm_I M p 7 + 1)) p a 5)) : ma_ G jX3_book (d + 1) 0 0 [.ref p, .int v, .ref a] M Q := by
  refine ma_of [some (.ref p), some (.int v), some (.ref a), none] (by decide) rfl (Nat.le_of_ble_eq_true rfl) ?_
  have lp : ∀ (r k : Nat), 5 - k = r → k ≤ 5 → wa_ 0 G jX3_book (d + 1) 0 0 Q 0 0 (pb_ (mm_sI (mm_sI M p 6 (mm_I M p 6 + v)) p 7 (mm_I M p 7 + 1)) p a k) 22 [some (.ref p), some (.int v), some (.ref a), some (.int (nI k))] [] := by
    intro r
    induction r with
    | zero =>
      intro k hr hk
      have hk5 : k = 5 := by omega
      subst hk5
      have ha1 : mm_sh (pb_ (mm_sI (mm_sI M p 6 (mm_I M p 6 + v)) p 7 (mm_I M p 7 + 1)) p a 5) a = some (.inr (0, 5)) := by rw [md_sk_sh (pb_sk _ _ _ _)]; exact ha
      refine wa_iload_n dX3_book_22 rfl ?_
      refine wa_aload_n dX3_book_23 rfl rfl ?_
      refine wa_alen dX3_book_24 ha1 ?_
      refine wa_icmp_ge (tgt := 43) dX3_book_25 (by decide) (fun hT25 => ?_) (fun hF25 => absurd (show Int32.ofNat 5 ≤ nI 5 from Int32.le_refl _) hF25)
      exact wa_vret dX3_book_43 rfl (hQ)
    | succ r ih =>
      intro k hr hk
      have hp1 : prt_ (pb_ (mm_sI (mm_sI M p 6 (mm_I M p 6 + v)) p 7 (mm_I M p 7 + 1)) p a k) p := md_sk_prt (pb_sk _ _ _ _) hp
      have ha1 : mm_sh (pb_ (mm_sI (mm_sI M p 6 (mm_I M p 6 + v)) p 7 (mm_I M p 7 + 1)) p a k) a = some (.inr (0, 5)) := by rw [md_sk_sh (pb_sk _ _ _ _)]; exact ha
      have hr1 : mm_I (pb_ (mm_sI (mm_sI M p 6 (mm_I M p 6 + v)) p 7 (mm_I M p 7 + 1)) p a k) a k = mm_I (mm_sI (mm_sI M p 6 (mm_I M p 6 + v)) p 7 (mm_I M p 7 + 1)) a k := pb_ne _ _ _ _ _ _ hap
      refine wa_iload_n dX3_book_22 rfl ?_
      refine wa_aload_n dX3_book_23 rfl rfl ?_
      refine wa_alen dX3_book_24 ha1 ?_
      refine wa_icmp_ge (tgt := 43) dX3_book_25 (by decide) (fun hT25 => absurd hT25 (nI_ge (b := 5) (by omega) (by decide))) (fun hF25 => ?_)
      refine wa_aload_n dX3_book_28 rfl rfl ?_
      refine wa_iload_n dX3_book_29 rfl ?_
      refine wa_aload_n dX3_book_30 rfl rfl ?_
      refine wa_iload_n dX3_book_31 rfl ?_
      refine wa_ialdN dX3_book_32 ha1 (Or.inl rfl) (by omega) (by decide) ?_
      rw [hr1]
      refine wa_ineg dX3_book_33 ?_
      refine wa_callV (q := (RX3, TX3, 8)) (As := [.int (nI k), .int (-mm_I (mm_sI (mm_sI M p 6 (mm_I M p 6 + v)) p 7 (mm_I M p 7 + 1)) a k)]) dX3_book_34 lk_X3_74 rfl rfl hp1.1 rfl rfl (Nat.le_of_ble_eq_true rfl) (Nat.le_of_eq (Nat.zero_add _)) (Nat.le_of_eq (Nat.zero_add _)) (k_X3_addStamps k _ hp1 (by omega) ?_)
      refine wa_iinc (v := nI (k + 1)) dX3_book_37 rfl (ni_i1 k) (by decide) rfl rfl ?_
      refine wa_goto (tgt := 22) dX3_book_40 (by decide) ?_
      exact ih (k + 1) (by omega) (by omega)
  refine wa_aload_n dX3_book_0 rfl rfl ?_
  refine wa_dup dX3_book_1 rfl ?_
  refine wa_getI (q := (RX3, TX3, 8)) (ci := 3) (k := 6) dX3_book_2 rfl (by decide) wf_X3_29 hp.1 rfl ?_
  refine wa_iload_n dX3_book_5 rfl ?_
  refine wa_iadd dX3_book_6 ?_
  refine wa_put (q := (RX3, TX3, 8)) (ci := 3) (k := 6) dX3_book_7 rfl (by decide) wf_X3_29 rfl hp.1 rfl ?_
  refine wa_aload_n dX3_book_10 rfl rfl ?_
  refine wa_dup dX3_book_11 rfl ?_
  refine wa_getI (q := (RX3, TX3, 8)) (ci := 3) (k := 7) dX3_book_12 rfl (by decide) wf_X3_32 hp.1 rfl ?_
  rw [show mm_I (mm_put M p 6 (.int (mm_I M p 6 + v))) p 7 = mm_I M p 7 from by show mm_I (mm_sI _ _ _ _) _ _ = _; rw [mm_I_sI, if_neg (by omega)]]
  refine wa_iconst (v := 1) dX3_book_15 (by decide) ?_
  refine wa_iadd dX3_book_16 ?_
  refine wa_put (q := (RX3, TX3, 8)) (ci := 3) (k := 7) dX3_book_17 rfl (by decide) wf_X3_32 rfl hp.1 rfl ?_
  refine wa_iconst (v := 0) dX3_book_20 (by decide) ?_
  refine wa_istore_n dX3_book_21 (by decide) rfl rfl ?_
  exact lp 5 0 (by omega) (by omega)

theorem k_X10_fault {G : mm_G} {d : Nat} {Q : Option Value → mm_M → Prop} {M : mm_M} {x : Nat} (hx : dsk_ M x) (hQ : Q (some (.int (mm_I M x 12))) M) : ma_ G jX10_fault d 0 0 [.ref x] M Q := by
  refine ma_of [some (.ref x)] (by decide) rfl (Nat.le_of_ble_eq_true rfl) ?_
  refine wa_aload_n dX10_fault_0 rfl rfl ?_
  refine wa_getI (q := (RX10, TX10, 13)) (ci := 10) (k := 12) dX10_fault_1 rfl (by decide) wf_X10_73 hx.1.1 rfl ?_
  exact wa_iret dX10_fault_4 rfl (hQ)

theorem k_X10_trouble {G : mm_G} {d : Nat} {Q : Option Value → mm_M → Prop} {M : mm_M} {x : Nat} (hx : dsk_ M x) (hQ : Q (some (.int (mm_I M x 11))) M) : ma_ G jX10_trouble d 0 0 [.ref x] M Q := by
  refine ma_of [some (.ref x)] (by decide) rfl (Nat.le_of_ble_eq_true rfl) ?_
  refine wa_aload_n dX10_trouble_0 rfl rfl ?_
  refine wa_getI (q := (RX10, TX10, 13)) (ci := 10) (k := 11) dX10_trouble_1 rfl (by decide) wf_X10_70 hx.1.1 rfl ?_
  exact wa_iret dX10_trouble_4 rfl (hQ)

theorem k_X10_where {G : mm_G} {d : Nat} {Q : Option Value → mm_M → Prop} {M : mm_M} {x : Nat} (hx : dsk_ M x) (h1 : mm_I M x 11 = 4 → Q (some (.int (mm_I M (x + 10) 1))) M) (h0 : ¬ mm_I M x 11 = 4 → Q (some (.int (-1))) M) : ma_ G jX10_where d 0 0 [.ref x] M Q := by
  refine ma_of [some (.ref x)] (by decide) rfl (Nat.le_of_ble_eq_true rfl) ?_
  refine wa_aload_n dX10_where_0 rfl rfl ?_
  refine wa_getI (q := (RX10, TX10, 13)) (ci := 10) (k := 11) dX10_where_1 rfl (by decide) wf_X10_70 hx.1.1 rfl ?_
  refine wa_iconst (v := 4) dX10_where_4 (by decide) ?_
  refine wa_icmp_ne (tgt := 18) dX10_where_5 (by decide) (fun hT5 => ?_) (fun hF5 => ?_)
  · refine wa_iconst (v := -1) dX10_where_18 (by decide) ?_
    exact wa_iret dX10_where_19 rfl (h0 (by assumption))
  · refine wa_aload_n dX10_where_8 rfl rfl ?_
    refine wa_getR (q := (RX10, TX10, 13)) (ci := 10) (k := 5) dX10_where_9 rfl (by decide) wf_X10_46 hx.1.1 rfl (dsk_r5 hx) ?_
    refine wa_getI (q := (RX4, TX4, 6)) (ci := 4) (k := 1) dX10_where_12 rfl (by decide) wf_X10_116 (dsk_s5 hx) rfl ?_
    refine wa_goto (tgt := 19) dX10_where_15 (by decide) ?_
    exact wa_iret dX10_where_19 rfl (h1 (by assumption))

theorem k_X10_count {G : mm_G} {d : Nat} {Q : Option Value → mm_M → Prop} {M : mm_M} {x : Nat} (w : Int32) (hx : dsk_ M x) (h0 : w = 0 → Q (some (.int (mm_I M x 7))) M) (h1 : w = 1 → Q (some (.int (mm_I M x 8))) M) (h2 : w = 2 → Q (some (.int (mm_I M x 9))) M) (h3 : w = 3 → Q (some (.int (mm_I M x 10))) M) (h4 : w = 4 → Q (some (.int (mm_I M (x + 4) 1))) M) (hN : w.toInt < 0 ∨ (4 : Nat) < w.toInt → Q (some (.int (-1))) M) : ma_ G jX10_count d 0 0 [.ref x, .int w] M Q := by
  refine ma_of [some (.ref x), some (.int w)] (by decide) rfl (Nat.le_of_ble_eq_true rfl) ?_
  refine wa_iload_n dX10_count_0 rfl ?_
  rcases sw_of w 4 (by decide) with ⟨j_, hj_, rfl⟩ | hO1
  · rcases (by omega : j_ = 0 ∨ j_ = 1 ∨ j_ = 2 ∨ j_ = 3 ∨ j_ = 4) with rfl | rfl | rfl | rfl | rfl
    · refine wa_tableIn (off := 35) (tgt := 36) dX10_count_1 (by decide) (by decide) (by decide) (by decide) ?_
      refine wa_aload_n dX10_count_36 rfl rfl ?_
      refine wa_getI (q := (RX10, TX10, 13)) (ci := 10) (k := 7) dX10_count_37 rfl (by decide) wf_X10_57 hx.1.1 rfl ?_
      exact wa_iret dX10_count_40 rfl (h0 rfl)
    · refine wa_tableIn (off := 40) (tgt := 41) dX10_count_1 (by decide) (by decide) (by decide) (by decide) ?_
      refine wa_aload_n dX10_count_41 rfl rfl ?_
      refine wa_getI (q := (RX10, TX10, 13)) (ci := 10) (k := 8) dX10_count_42 rfl (by decide) wf_X10_61 hx.1.1 rfl ?_
      exact wa_iret dX10_count_45 rfl (h1 rfl)
    · refine wa_tableIn (off := 45) (tgt := 46) dX10_count_1 (by decide) (by decide) (by decide) (by decide) ?_
      refine wa_aload_n dX10_count_46 rfl rfl ?_
      refine wa_getI (q := (RX10, TX10, 13)) (ci := 10) (k := 9) dX10_count_47 rfl (by decide) wf_X10_64 hx.1.1 rfl ?_
      exact wa_iret dX10_count_50 rfl (h2 rfl)
    · refine wa_tableIn (off := 50) (tgt := 51) dX10_count_1 (by decide) (by decide) (by decide) (by decide) ?_
      refine wa_aload_n dX10_count_51 rfl rfl ?_
      refine wa_getI (q := (RX10, TX10, 13)) (ci := 10) (k := 10) dX10_count_52 rfl (by decide) wf_X10_67 hx.1.1 rfl ?_
      exact wa_iret dX10_count_55 rfl (h3 rfl)
    · refine wa_tableIn (off := 55) (tgt := 56) dX10_count_1 (by decide) (by decide) (by decide) (by decide) ?_
      refine wa_aload_n dX10_count_56 rfl rfl ?_
      refine wa_getR (q := (RX10, TX10, 13)) (ci := 10) (k := 3) dX10_count_57 rfl (by decide) wf_X10_30 hx.1.1 rfl (dsk_r3 hx) ?_
      refine wa_getI (q := (RX5, TX5, 2)) (ci := 5) (k := 1) dX10_count_60 rfl (by decide) wf_X10_90 hx.2.1.1 rfl ?_
      exact wa_iret dX10_count_63 rfl (h4 rfl)
  · refine wa_tableOut (tgt := 64) dX10_count_1 hO1 (by decide) ?_
    refine wa_iconst (v := -1) dX10_count_64 (by decide) ?_
    exact wa_iret dX10_count_65 rfl (hN hO1)

theorem k_X10_force {G : mm_G} {d : Nat} {Q : Option Value → mm_M → Prop} {M : mm_M} {x : Nat} (p : Int32) (P T : Nat) (pa : Nat → Nat) (hx : dsk_ M x) (hP : dP_ M x P T pa) (h0 : p < 0 ∨ nI P ≤ p → Q (some (.int (-1))) M) (h1 : ∀ q t : Nat, p = nI q → q < P → t ≤ T → (∀ j, j < t → ¬ pc_ M (pa q) T (mm_I M x 10) j = -2) → (t < T → pc_ M (pa q) T (mm_I M x 10) t = -2) → Q (some (.int (if t = 0 then -2 else nI t - 1))) M) : ma_ G jX10_force (d + 4) 0 0 [.ref x, .int p] M Q := by
  refine ma_of [some (.ref x), some (.int p), none] (by decide) rfl (Nat.le_of_ble_eq_true rfl) ?_
  refine wa_aload_n dX10_force_0 rfl rfl ?_
  refine wa_iload_n dX10_force_1 rfl ?_
  refine wa_callV (q := (RX10, TX10, 13)) (As := [.int p]) dX10_force_2 lk_X10_119 rfl rfl hx.1.1 rfl rfl (Nat.le_of_ble_eq_true rfl) (Nat.le_of_eq (Nat.zero_add _)) (Nat.le_of_eq (Nat.zero_add _)) (k_X10_portAt p P T pa hx hP (fun q eq hq => ?_) (fun hAq => ?_))
  · subst eq
    have hpq := (hP.2.2.2 q hq).2.1
    refine wa_astore_n dX10_force_5 (by decide) rfl rfl rfl ?_
    refine wa_aload_n dX10_force_6 rfl rfl ?_
    refine wa_ifnonnullR (tgt := 14) dX10_force_7 (by decide) ?_
    refine wa_aload_n dX10_force_14 rfl rfl ?_
    refine wa_aload_n dX10_force_15 rfl rfl ?_
    refine wa_getI (q := (RX10, TX10, 13)) (ci := 10) (k := 10) dX10_force_16 rfl (by decide) wf_X10_67 hx.1.1 rfl ?_
    refine wa_callV (q := (RX3, TX3, 8)) (As := [.int (mm_I M x 10)]) dX10_force_19 lk_X10_131 rfl rfl hpq.1 rfl rfl (Nat.le_of_ble_eq_true rfl) (Nat.le_of_eq (Nat.zero_add _)) (Nat.le_of_eq (Nat.zero_add _)) (k_X3_inForce _ T hpq (hP.2.2.2 q hq).2.2 hP.2.2.1 (fun t ha hb hc => ?_))
    exact wa_iret dX10_force_22 rfl (h1 q t rfl hq ha hb hc)
  · refine wa_astore_n dX10_force_5 (by decide) rfl rfl rfl ?_
    refine wa_aload_n dX10_force_6 rfl rfl ?_
    refine wa_ifnonnullN dX10_force_7 ?_
    refine wa_iconst (v := -1) dX10_force_10 (by decide) ?_
    refine wa_goto (tgt := 22) dX10_force_11 (by decide) ?_
    exact wa_iret dX10_force_22 rfl (h0 hAq)

theorem k_X10_came {G : mm_G} {d : Nat} {Q : Option Value → mm_M → Prop} {M : mm_M} {x : Nat} (p : Int32) (r : Int32) (P T : Nat) (pa : Nat → Nat) (hx : dsk_ M x) (hP : dP_ M x P T pa) (h0 : (p < 0 ∨ nI P ≤ p) ∨ (r < 0 ∨ nI T ≤ r) → Q (some (.int (-1))) M) (h1 : ∀ q t : Nat, p = nI q → q < P → r = nI t → t < T → Q (some (.int (pc_ M (pa q) T (mm_I M x 10) t))) M) : ma_ G jX10_came (d + 3) 0 0 [.ref x, .int p, .int r] M Q := by
  refine ma_of [some (.ref x), some (.int p), some (.int r), none] (by decide) rfl (Nat.le_of_ble_eq_true rfl) ?_
  refine wa_aload_n dX10_came_0 rfl rfl ?_
  refine wa_iload_n dX10_came_1 rfl ?_
  refine wa_callV (q := (RX10, TX10, 13)) (As := [.int p]) dX10_came_2 lk_X10_119 rfl rfl hx.1.1 rfl rfl (Nat.le_of_ble_eq_true rfl) (Nat.le_of_eq (Nat.zero_add _)) (Nat.le_of_eq (Nat.zero_add _)) (k_X10_portAt p P T pa hx hP (fun q eq hq => ?_) (fun hAq => ?_))
  · subst eq
    have hpq := (hP.2.2.2 q hq).2.1
    refine wa_astore_n dX10_came_5 (by decide) rfl rfl rfl ?_
    refine wa_aload_n dX10_came_6 rfl rfl ?_
    refine wa_ifnullR dX10_came_7 ?_
    refine wa_aload_n dX10_came_10 rfl rfl ?_
    refine wa_iload_n dX10_came_11 rfl ?_
    refine wa_callV (q := (RX3, TX3, 8)) (As := [.int r]) dX10_came_12 lk_X10_123 rfl rfl hpq.1 rfl rfl (Nat.le_of_ble_eq_true rfl) (Nat.le_of_eq (Nat.zero_add _)) (Nat.le_of_eq (Nat.zero_add _)) (k_X3_wasSent r T hpq (hP.2.2.2 q hq).2.2 hP.2.2.1 (fun t et ht => ?_) (fun hB => ?_))
    · subst et
      refine wa_if_ne (tgt := 20) dX10_came_15 (by decide) (fun _ => ?_) (fun h9 => absurd h9 (by decide))
      refine wa_aload_n dX10_came_20 rfl rfl ?_
      refine wa_iload_n dX10_came_21 rfl ?_
      refine wa_aload_n dX10_came_22 rfl rfl ?_
      refine wa_getI (q := (RX10, TX10, 13)) (ci := 10) (k := 10) dX10_came_23 rfl (by decide) wf_X10_67 hx.1.1 rfl ?_
      refine wa_callV (q := (RX3, TX3, 8)) (As := [.int (nI t), .int (mm_I M x 10)]) dX10_came_26 lk_X10_134 rfl rfl hpq.1 rfl rfl (Nat.le_of_ble_eq_true rfl) (Nat.le_of_eq (Nat.zero_add _)) (Nat.le_of_eq (Nat.zero_add _)) (k_X3_comeDay t _ T hpq (hP.2.2.2 q hq).2.2 hP.2.2.1 ht ?_)
      exact wa_iret dX10_came_29 rfl (h1 q t rfl hq rfl ht)
    · refine wa_if_ne (tgt := 20) dX10_came_15 (by decide) (fun h9 => absurd h9 (by decide)) (fun _ => ?_)
      refine wa_iconst (v := -1) dX10_came_18 (by decide) ?_
      exact wa_iret dX10_came_19 rfl (h0 (by first | exact Or.inr hB | exact Or.inl hAq))
  · refine wa_astore_n dX10_came_5 (by decide) rfl rfl rfl ?_
    refine wa_aload_n dX10_came_6 rfl rfl ?_
    refine wa_ifnullN (tgt := 18) dX10_came_7 (by decide) ?_
    refine wa_iconst (v := -1) dX10_came_18 (by decide) ?_
    exact wa_iret dX10_came_19 rfl (h0 (by first | exact Or.inr hB | exact Or.inl hAq))

theorem k_X10_asked {G : mm_G} {d : Nat} {Q : Option Value → mm_M → Prop} {M : mm_M} {x : Nat} (p : Int32) (r : Int32) (P T : Nat) (pa : Nat → Nat) (hx : dsk_ M x) (hP : dP_ M x P T pa) (h0 : (p < 0 ∨ nI P ≤ p) ∨ (r < 0 ∨ nI T ≤ r) → Q (some (.int (-1))) M) (h1 : ∀ q t : Nat, p = nI q → q < P → r = nI t → t < T → ¬ pa_ M (pa q) T (mm_I M x 10) t = -2 → Q (some (.int 1)) M) (h2 : ∀ q t : Nat, p = nI q → q < P → r = nI t → t < T → pa_ M (pa q) T (mm_I M x 10) t = -2 → Q (some (.int 0)) M) : ma_ G jX10_asked (d + 2) 0 0 [.ref x, .int p, .int r] M Q := by
  refine ma_of [some (.ref x), some (.int p), some (.int r), none] (by decide) rfl (Nat.le_of_ble_eq_true rfl) ?_
  refine wa_aload_n dX10_asked_0 rfl rfl ?_
  refine wa_iload_n dX10_asked_1 rfl ?_
  refine wa_callV (q := (RX10, TX10, 13)) (As := [.int p]) dX10_asked_2 lk_X10_119 rfl rfl hx.1.1 rfl rfl (Nat.le_of_ble_eq_true rfl) (Nat.le_of_eq (Nat.zero_add _)) (Nat.le_of_eq (Nat.zero_add _)) (k_X10_portAt p P T pa hx hP (fun q eq hq => ?_) (fun hAq => ?_))
  · subst eq
    have hpq := (hP.2.2.2 q hq).2.1
    refine wa_astore_n dX10_asked_5 (by decide) rfl rfl rfl ?_
    refine wa_aload_n dX10_asked_6 rfl rfl ?_
    refine wa_ifnullR dX10_asked_7 ?_
    refine wa_aload_n dX10_asked_10 rfl rfl ?_
    refine wa_iload_n dX10_asked_11 rfl ?_
    refine wa_callV (q := (RX3, TX3, 8)) (As := [.int r]) dX10_asked_12 lk_X10_123 rfl rfl hpq.1 rfl rfl (Nat.le_of_ble_eq_true rfl) (Nat.le_of_eq (Nat.zero_add _)) (Nat.le_of_eq (Nat.zero_add _)) (k_X3_wasSent r T hpq (hP.2.2.2 q hq).2.2 hP.2.2.1 (fun t et ht => ?_) (fun hB => ?_))
    · subst et
      refine wa_if_ne (tgt := 20) dX10_asked_15 (by decide) (fun _ => ?_) (fun h9 => absurd h9 (by decide))
      refine wa_aload_n dX10_asked_20 rfl rfl ?_
      refine wa_iload_n dX10_asked_21 rfl ?_
      refine wa_aload_n dX10_asked_22 rfl rfl ?_
      refine wa_getI (q := (RX10, TX10, 13)) (ci := 10) (k := 10) dX10_asked_23 rfl (by decide) wf_X10_67 hx.1.1 rfl ?_
      refine wa_callV (q := (RX3, TX3, 8)) (As := [.int (nI t), .int (mm_I M x 10)]) dX10_asked_26 lk_X10_138 rfl rfl hpq.1 rfl rfl (Nat.le_of_ble_eq_true rfl) (Nat.le_of_eq (Nat.zero_add _)) (Nat.le_of_eq (Nat.zero_add _)) (k_X3_askDay t _ T hpq (hP.2.2.2 q hq).2.2 hP.2.2.1 ht ?_)
      refine wa_bipush (v := -2) dX10_asked_29 (by decide) ?_
      refine wa_icmp_ne (tgt := 38) dX10_asked_31 (by decide) (fun hT31 => ?_) (fun hF31 => ?_)
      · refine wa_iconst (v := 1) dX10_asked_38 (by decide) ?_
        exact wa_iret dX10_asked_39 rfl (h1 q t rfl hq rfl ht (by assumption))
      · refine wa_iconst (v := 0) dX10_asked_34 (by decide) ?_
        refine wa_goto (tgt := 39) dX10_asked_35 (by decide) ?_
        exact wa_iret dX10_asked_39 rfl (h2 q t rfl hq rfl ht (by assumption))
    · refine wa_if_ne (tgt := 20) dX10_asked_15 (by decide) (fun h9 => absurd h9 (by decide)) (fun _ => ?_)
      refine wa_iconst (v := -1) dX10_asked_18 (by decide) ?_
      exact wa_iret dX10_asked_19 rfl (h0 (by first | exact Or.inr hB | exact Or.inl hAq))
  · refine wa_astore_n dX10_asked_5 (by decide) rfl rfl rfl ?_
    refine wa_aload_n dX10_asked_6 rfl rfl ?_
    refine wa_ifnullN (tgt := 18) dX10_asked_7 (by decide) ?_
    refine wa_iconst (v := -1) dX10_asked_18 (by decide) ?_
    exact wa_iret dX10_asked_19 rfl (h0 (by first | exact Or.inr hB | exact Or.inl hAq))

theorem k_X10_lost {G : mm_G} {d : Nat} {Q : Option Value → mm_M → Prop} {M : mm_M} {x : Nat} (p : Int32) (r : Int32) (P T : Nat) (pa : Nat → Nat) (hx : dsk_ M x) (hP : dP_ M x P T pa) (h0 : (p < 0 ∨ nI P ≤ p) ∨ (r < 0 ∨ nI T ≤ r) → Q (some (.int 0)) (mm_sI M x 11 1)) (h7 : ∀ q t : Nat, p = nI q → q < P → r = nI t → t < T → (¬ mm_I M (pa q + 3) t = 0 ∨ mm_I M (pa q + 2) t ≤ mm_I M x 10) → Q (some (.int 0)) (mm_sI M x 11 7)) (h1 : ∀ q t : Nat, p = nI q → q < P → r = nI t → t < T → mm_I M (pa q + 3) t = 0 → mm_I M x 10 < mm_I M (pa q + 2) t → Q (some (.int 1)) (mm_sI (mm_sI M (pa q + 3) t 1) x 11 0)) : ma_ G jX10_lost (d + 2) 0 0 [.ref x, .int p, .int r] M Q := by
  refine ma_of [some (.ref x), some (.int p), some (.int r), none] (by decide) rfl (Nat.le_of_ble_eq_true rfl) ?_
  refine wa_aload_n dX10_lost_0 rfl rfl ?_
  refine wa_iload_n dX10_lost_1 rfl ?_
  refine wa_callV (q := (RX10, TX10, 13)) (As := [.int p]) dX10_lost_2 lk_X10_119 rfl rfl hx.1.1 rfl rfl (Nat.le_of_ble_eq_true rfl) (Nat.le_of_eq (Nat.zero_add _)) (Nat.le_of_eq (Nat.zero_add _)) (k_X10_portAt p P T pa hx hP (fun q eq hq => ?_) (fun hAq => ?_))
  · subst eq
    have hpq := (hP.2.2.2 q hq).2.1
    refine wa_astore_n dX10_lost_5 (by decide) rfl rfl rfl ?_
    refine wa_aload_n dX10_lost_6 rfl rfl ?_
    refine wa_ifnullR dX10_lost_7 ?_
    refine wa_aload_n dX10_lost_10 rfl rfl ?_
    refine wa_iload_n dX10_lost_11 rfl ?_
    refine wa_callV (q := (RX3, TX3, 8)) (As := [.int r]) dX10_lost_12 lk_X10_123 rfl rfl hpq.1 rfl rfl (Nat.le_of_ble_eq_true rfl) (Nat.le_of_eq (Nat.zero_add _)) (Nat.le_of_eq (Nat.zero_add _)) (k_X3_wasSent r T hpq (hP.2.2.2 q hq).2.2 hP.2.2.1 (fun t et ht => ?_) (fun hB => ?_))
    · subst et
      refine wa_if_ne (tgt := 26) dX10_lost_15 (by decide) (fun _ => ?_) (fun h9 => absurd h9 (by decide))
      refine wa_aload_n dX10_lost_26 rfl rfl ?_
      refine wa_iload_n dX10_lost_27 rfl ?_
      refine wa_aload_n dX10_lost_28 rfl rfl ?_
      refine wa_getI (q := (RX10, TX10, 13)) (ci := 10) (k := 10) dX10_lost_29 rfl (by decide) wf_X10_67 hx.1.1 rfl ?_
      refine wa_callV (q := (RX3, TX3, 8)) (As := [.int (nI t), .int (mm_I M x 10)]) dX10_lost_32 lk_X10_127 rfl rfl hpq.1 rfl rfl (Nat.le_of_ble_eq_true rfl) (Nat.le_of_eq (Nat.zero_add _)) (Nat.le_of_eq (Nat.zero_add _)) (k_X3_lose t _ T hpq (hP.2.2.2 q hq).2.2 hP.2.2.1 ht (fun hE => ?_) (fun hE hG => ?_))
      · refine wa_if_ne (tgt := 47) dX10_lost_35 (by decide) (fun h9 => absurd h9 (by decide)) (fun _ => ?_)
        refine wa_aload_n dX10_lost_38 rfl rfl ?_
        refine wa_bipush (v := 7) dX10_lost_39 (by decide) ?_
        refine wa_callV (q := (RX10, TX10, 13)) (As := [.int 7]) dX10_lost_41 lk_X10_76 rfl rfl hx.1.1 rfl rfl (Nat.le_of_ble_eq_true rfl) (Nat.le_of_eq (Nat.zero_add _)) (Nat.le_of_eq (Nat.zero_add _)) (k_X10_refuse 7 hx ?_)
        refine wa_pop dX10_lost_44 rfl ?_
        refine wa_iconst (v := 0) dX10_lost_45 (by decide) ?_
        exact wa_zret dX10_lost_46 rfl rfl (h7 q t rfl hq rfl ht hE)
      · refine wa_if_ne (tgt := 47) dX10_lost_35 (by decide) (fun _ => ?_) (fun h9 => absurd h9 (by decide))
        refine wa_aload_n dX10_lost_47 rfl rfl ?_
        refine wa_iconst (v := 0) dX10_lost_48 (by decide) ?_
        refine wa_callV (q := (RX10, TX10, 13)) (As := [.int 0]) dX10_lost_49 lk_X10_87 rfl rfl hx.1.1 rfl rfl (Nat.le_of_ble_eq_true rfl) (Nat.le_of_eq (Nat.zero_add _)) (Nat.le_of_eq (Nat.zero_add _)) (k_X10_accept 0 hx ?_)
        refine wa_pop dX10_lost_52 rfl ?_
        refine wa_iconst (v := 1) dX10_lost_53 (by decide) ?_
        exact wa_zret dX10_lost_54 rfl rfl (h1 q t rfl hq rfl ht hE hG)
    · refine wa_if_ne (tgt := 26) dX10_lost_15 (by decide) (fun h9 => absurd h9 (by decide)) (fun _ => ?_)
      refine wa_aload_n dX10_lost_18 rfl rfl ?_
      refine wa_iconst (v := 1) dX10_lost_19 (by decide) ?_
      refine wa_callV (q := (RX10, TX10, 13)) (As := [.int 1]) dX10_lost_20 lk_X10_76 rfl rfl hx.1.1 rfl rfl (Nat.le_of_ble_eq_true rfl) (Nat.le_of_eq (Nat.zero_add _)) (Nat.le_of_eq (Nat.zero_add _)) (k_X10_refuse 1 hx ?_)
      refine wa_pop dX10_lost_23 rfl ?_
      refine wa_iconst (v := 0) dX10_lost_24 (by decide) ?_
      exact wa_zret dX10_lost_25 rfl rfl (h0 (by first | exact Or.inr hB | exact Or.inl hAq))
  · refine wa_astore_n dX10_lost_5 (by decide) rfl rfl rfl ?_
    refine wa_aload_n dX10_lost_6 rfl rfl ?_
    refine wa_ifnullN (tgt := 18) dX10_lost_7 (by decide) ?_
    refine wa_aload_n dX10_lost_18 rfl rfl ?_
    refine wa_iconst (v := 1) dX10_lost_19 (by decide) ?_
    refine wa_callV (q := (RX10, TX10, 13)) (As := [.int 1]) dX10_lost_20 lk_X10_76 rfl rfl hx.1.1 rfl rfl (Nat.le_of_ble_eq_true rfl) (Nat.le_of_eq (Nat.zero_add _)) (Nat.le_of_eq (Nat.zero_add _)) (k_X10_refuse 1 hx ?_)
    refine wa_pop dX10_lost_23 rfl ?_
    refine wa_iconst (v := 0) dX10_lost_24 (by decide) ?_
    exact wa_zret dX10_lost_25 rfl rfl (h0 (by first | exact Or.inr hB | exact Or.inl hAq))

theorem k_X10_pass {G : mm_G} {d : Nat} {Q : Option Value → mm_M → Prop} {M : mm_M} {x : Nat} (w : Int32) (hx : dsk_ M x) (h2 : w < 1 ∨ 400 < w ∨ 10000 - mm_I M x 10 < w → Q (some (.int (-1))) (mm_sI M x 11 2)) (h1 : ¬ w < 1 → ¬ 400 < w → w ≤ 10000 - mm_I M x 10 → Q (some (.int (mm_I M x 10 + w))) (mm_sI (mm_sI M x 10 (mm_I M x 10 + w)) x 11 0)) : ma_ G jX10_pass (d + 1) 0 0 [.ref x, .int w] M Q := by
  refine ma_of [some (.ref x), some (.int w)] (by decide) rfl (Nat.le_of_ble_eq_true rfl) ?_
  refine wa_iload_n dX10_pass_0 rfl ?_
  refine wa_iconst (v := 1) dX10_pass_1 (by decide) ?_
  refine wa_icmp_lt (tgt := 24) dX10_pass_2 (by decide) (fun hT2 => ?_) (fun hF2 => ?_)
  · refine wa_aload_n dX10_pass_24 rfl rfl ?_
    refine wa_iconst (v := 2) dX10_pass_25 (by decide) ?_
    refine wa_callV (q := (RX10, TX10, 13)) (As := [.int 2]) dX10_pass_26 lk_X10_76 rfl rfl hx.1.1 rfl rfl (Nat.le_of_ble_eq_true rfl) (Nat.le_of_eq (Nat.zero_add _)) (Nat.le_of_eq (Nat.zero_add _)) (k_X10_refuse 2 hx ?_)
    exact wa_iret dX10_pass_29 rfl (h2 (by first | exact Or.inl (by assumption) | exact Or.inr (Or.inl (by assumption)) | exact Or.inr (Or.inr (Int32.not_le.mp (by assumption)))))
  · refine wa_iload_n dX10_pass_5 rfl ?_
    refine wa_sipush (v := 400) dX10_pass_6 (by decide) ?_
    refine wa_icmp_gt (tgt := 24) dX10_pass_9 (by decide) (fun hT9 => ?_) (fun hF9 => ?_)
    · refine wa_aload_n dX10_pass_24 rfl rfl ?_
      refine wa_iconst (v := 2) dX10_pass_25 (by decide) ?_
      refine wa_callV (q := (RX10, TX10, 13)) (As := [.int 2]) dX10_pass_26 lk_X10_76 rfl rfl hx.1.1 rfl rfl (Nat.le_of_ble_eq_true rfl) (Nat.le_of_eq (Nat.zero_add _)) (Nat.le_of_eq (Nat.zero_add _)) (k_X10_refuse 2 hx ?_)
      exact wa_iret dX10_pass_29 rfl (h2 (by first | exact Or.inl (by assumption) | exact Or.inr (Or.inl (by assumption)) | exact Or.inr (Or.inr (Int32.not_le.mp (by assumption)))))
    · refine wa_iload_n dX10_pass_12 rfl ?_
      refine wa_sipush (v := 10000) dX10_pass_13 (by decide) ?_
      refine wa_aload_n dX10_pass_16 rfl rfl ?_
      refine wa_getI (q := (RX10, TX10, 13)) (ci := 10) (k := 10) dX10_pass_17 rfl (by decide) wf_X10_67 hx.1.1 rfl ?_
      refine wa_isub dX10_pass_20 ?_
      refine wa_icmp_le (tgt := 30) dX10_pass_21 (by decide) (fun hT21 => ?_) (fun hF21 => ?_)
      · refine wa_aload_n dX10_pass_30 rfl rfl ?_
        refine wa_dup dX10_pass_31 rfl ?_
        refine wa_getI (q := (RX10, TX10, 13)) (ci := 10) (k := 10) dX10_pass_32 rfl (by decide) wf_X10_67 hx.1.1 rfl ?_
        refine wa_iload_n dX10_pass_35 rfl ?_
        refine wa_iadd dX10_pass_36 ?_
        refine wa_put (q := (RX10, TX10, 13)) (ci := 10) (k := 10) dX10_pass_37 rfl (by decide) wf_X10_67 rfl hx.1.1 rfl ?_
        refine wa_aload_n dX10_pass_40 rfl rfl ?_
        refine wa_aload_n dX10_pass_41 rfl rfl ?_
        refine wa_getI (q := (RX10, TX10, 13)) (ci := 10) (k := 10) dX10_pass_42 rfl (by decide) wf_X10_67 hx.1.1 rfl ?_
        rw [show mm_I (mm_put M x 10 (.int (mm_I M x 10 + w))) x 10 = mm_I M x 10 + w from by show mm_I (mm_sI _ _ _ _) _ _ = _; rw [mm_I_sI, if_pos ⟨rfl, rfl⟩]]
        refine wa_callV (q := (RX10, TX10, 13)) (As := [.int (mm_I M x 10 + w)]) dX10_pass_45 lk_X10_87 rfl rfl hx.1.1 rfl rfl (Nat.le_of_ble_eq_true rfl) (Nat.le_of_eq (Nat.zero_add _)) (Nat.le_of_eq (Nat.zero_add _)) (k_X10_accept _ hx ?_)
        exact wa_iret dX10_pass_48 rfl (h1 (by assumption) (by assumption) (by assumption))
      · refine wa_aload_n dX10_pass_24 rfl rfl ?_
        refine wa_iconst (v := 2) dX10_pass_25 (by decide) ?_
        refine wa_callV (q := (RX10, TX10, 13)) (As := [.int 2]) dX10_pass_26 lk_X10_76 rfl rfl hx.1.1 rfl rfl (Nat.le_of_ble_eq_true rfl) (Nat.le_of_eq (Nat.zero_add _)) (Nat.le_of_eq (Nat.zero_add _)) (k_X10_refuse 2 hx ?_)
        exact wa_iret dX10_pass_29 rfl (h2 (by first | exact Or.inl (by assumption) | exact Or.inr (Or.inl (by assumption)) | exact Or.inr (Or.inr (Int32.not_le.mp (by assumption)))))
