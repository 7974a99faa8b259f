theorem i3_z (x : Int32) : x + 0 = x := by
  first
    | simp
    | exact Int32.add_zero x
theorem si_1 {g : Nat → Int32} {i : Nat} {v : Int32} (h : g i = v) : si_ g i + v = si_ g (i + 1) := by
  show _ = si_ g i + g i
  rw [h]
theorem si_n {g : Nat → Int32} {i : Nat} (h : g i = 0) : si_ g i = si_ g (i + 1) := by
  show _ = si_ g i + g i
  rw [h, i3_z]

theorem k_X10_stock {G : mm_G} {d : Nat} {Q : Option Value → mm_M → Prop} {M : mm_M} {x : Nat} (p : Int32) (w : Int32) (n : Int32) (P T : Nat) (pa : Nat → Nat) (hx : dsk_ M x) (hP : dP_ M x P T pa) (w0 : Nat) (hG0 : G.2.2.2.1 0 = .ref w0) (hw0 : mm_sh M w0 = some (.inr (10, 5))) (h0 : (p < 0 ∨ nI P ≤ p) ∨ (w < 0 ∨ nI 5 ≤ w) → Q (some (.int (-1))) (mm_sI M x 11 1)) (h2 : ∀ q r : Nat, p = nI q → q < P → w = nI r → r < 5 → (n < 0 ∨ 10000 - mm_I M (pa q + 1) r < n) → Q (some (.int (-1))) (mm_sI M x 11 2)) (h1 : ∀ q r : Nat, p = nI q → q < P → w = nI r → r < 5 → ¬ n < 0 → n ≤ 10000 - mm_I M (pa q + 1) r → Q (some (.int (mm_I M (pa q + 1) r + n))) (mm_sI (mm_sI M (pa q + 1) r (mm_I M (pa q + 1) r + n)) x 11 0)) : ma_ G jX10_stock (d + 1) 0 0 [.ref x, .int p, .int w, .int n] M Q := by
  refine ma_of [some (.ref x), some (.int p), some (.int w), some (.int n), none] (by decide) rfl (Nat.le_of_ble_eq_true rfl) ?_
  refine wa_aload_n dX10_stock_0 rfl rfl ?_
  refine wa_iload_n dX10_stock_1 rfl ?_
  refine wa_callV (q := (RX10, TX10, 13)) (As := [.int p]) dX10_stock_2 lk_X10_119 rfl rfl hx.1.1 rfl rfl (Nat.le_of_ble_eq_true rfl) (Nat.le_of_eq (Nat.zero_add _)) (Nat.le_of_eq (Nat.zero_add _)) (k_X10_portAt p P T pa hx hP (fun q eq hq => ?_) (fun hAq => ?_))
  · subst eq
    have hpq := (hP.2.2.2 q hq).2.1
    refine wa_astore dX10_stock_5 (by decide) rfl rfl rfl ?_
    refine wa_aload dX10_stock_7 rfl rfl ?_
    refine wa_ifnullR dX10_stock_9 ?_
    refine wa_iload_n dX10_stock_12 rfl ?_
    refine wa_callS (As := [.int w]) dX10_stock_13 lk_X10_144 rfl rfl (Nat.le_of_ble_eq_true rfl) (Nat.le_of_eq (Nat.zero_add _)) (Nat.le_of_eq (Nat.zero_add _)) (k_X10_isWorth w w0 hG0 hw0 (fun r er hr => ?_) (fun hB => ?_))
    · subst er
      refine wa_if_ne (tgt := 25) dX10_stock_16 (by decide) (fun _ => ?_) (fun h9 => absurd h9 (by decide))
      refine wa_iload_n dX10_stock_25 rfl ?_
      refine wa_if_lt (tgt := 43) dX10_stock_26 (by decide) (fun hT26 => ?_) (fun hF26 => ?_)
      · refine wa_aload_n dX10_stock_43 rfl rfl ?_
        refine wa_iconst (v := 2) dX10_stock_44 (by decide) ?_
        refine wa_callV (q := (RX10, TX10, 13)) (As := [.int 2]) dX10_stock_45 lk_X10_76 rfl rfl hx.1.1 rfl rfl (Nat.le_of_ble_eq_true rfl) (Nat.le_of_eq (Nat.zero_add _)) (Nat.le_of_eq (Nat.zero_add _)) (k_X10_refuse 2 hx ?_)
        exact wa_iret dX10_stock_48 rfl (h2 q r rfl hq rfl hr (by first | exact Or.inl (by assumption) | exact Or.inr (Int32.not_le.mp (by assumption))))
      · refine wa_iload_n dX10_stock_29 rfl ?_
        refine wa_sipush (v := 10000) dX10_stock_30 (by decide) ?_
        refine wa_aload dX10_stock_33 rfl rfl ?_
        refine wa_iload_n dX10_stock_35 rfl ?_
        refine wa_callV (q := (RX3, TX3, 8)) (As := [.int (nI r)]) dX10_stock_36 lk_X10_147 rfl rfl hpq.1 rfl rfl (Nat.le_of_ble_eq_true rfl) (Nat.le_of_eq (Nat.zero_add _)) (Nat.le_of_eq (Nat.zero_add _)) (k_X3_stampsOf r hpq hr ?_)
        refine wa_isub dX10_stock_39 ?_
        refine wa_icmp_le (tgt := 49) dX10_stock_40 (by decide) (fun hT40 => ?_) (fun hF40 => ?_)
        · refine wa_aload dX10_stock_49 rfl rfl ?_
          refine wa_iload_n dX10_stock_51 rfl ?_
          refine wa_iload_n dX10_stock_52 rfl ?_
          refine wa_callV (q := (RX3, TX3, 8)) (As := [.int (nI r), .int n]) dX10_stock_53 lk_X10_150 rfl rfl hpq.1 rfl rfl (Nat.le_of_ble_eq_true rfl) (Nat.le_of_eq (Nat.zero_add _)) (Nat.le_of_eq (Nat.zero_add _)) (k_X3_addStamps r n hpq hr ?_)
          refine wa_aload_n dX10_stock_56 rfl rfl ?_
          refine wa_aload dX10_stock_57 rfl rfl ?_
          refine wa_iload_n dX10_stock_59 rfl ?_
          refine wa_callV (q := (RX3, TX3, 8)) (As := [.int (nI r)]) dX10_stock_60 lk_X10_147 rfl rfl hpq.1 rfl rfl (Nat.le_of_ble_eq_true rfl) (Nat.le_of_eq (Nat.zero_add _)) (Nat.le_of_eq (Nat.zero_add _)) (k_X3_stampsOf r hpq hr ?_)
          rw [show mm_I (mm_sI M (pa q + 1) r (mm_I M (pa q + 1) r + n)) (pa q + 1) r = mm_I M (pa q + 1) r + n from by rw [mm_I_sI, if_pos ⟨rfl, rfl⟩]]
          refine wa_callV (q := (RX10, TX10, 13)) (As := [.int (mm_I M (pa q + 1) r + n)]) dX10_stock_63 lk_X10_87 rfl rfl hx.1.1 rfl rfl (Nat.le_of_ble_eq_true rfl) (Nat.le_of_eq (Nat.zero_add _)) (Nat.le_of_eq (Nat.zero_add _)) (k_X10_accept _ hx ?_)
          exact wa_iret dX10_stock_66 rfl (h1 q r rfl hq rfl hr (by assumption) (by assumption))
        · refine wa_aload_n dX10_stock_43 rfl rfl ?_
          refine wa_iconst (v := 2) dX10_stock_44 (by decide) ?_
          refine wa_callV (q := (RX10, TX10, 13)) (As := [.int 2]) dX10_stock_45 lk_X10_76 rfl rfl hx.1.1 rfl rfl (Nat.le_of_ble_eq_true rfl) (Nat.le_of_eq (Nat.zero_add _)) (Nat.le_of_eq (Nat.zero_add _)) (k_X10_refuse 2 hx ?_)
          exact wa_iret dX10_stock_48 rfl (h2 q r rfl hq rfl hr (by first | exact Or.inl (by assumption) | exact Or.inr (Int32.not_le.mp (by assumption))))
    · refine wa_if_ne (tgt := 25) dX10_stock_16 (by decide) (fun h9 => absurd h9 (by decide)) (fun _ => ?_)
      refine wa_aload_n dX10_stock_19 rfl rfl ?_
      refine wa_iconst (v := 1) dX10_stock_20 (by decide) ?_
      refine wa_callV (q := (RX10, TX10, 13)) (As := [.int 1]) dX10_stock_21 lk_X10_76 rfl rfl hx.1.1 rfl rfl (Nat.le_of_ble_eq_true rfl) (Nat.le_of_eq (Nat.zero_add _)) (Nat.le_of_eq (Nat.zero_add _)) (k_X10_refuse 1 hx ?_)
      exact wa_iret dX10_stock_24 rfl (h0 (by first | exact Or.inr hB | exact Or.inl hAq))
  · refine wa_astore dX10_stock_5 (by decide) rfl rfl rfl ?_
    refine wa_aload dX10_stock_7 rfl rfl ?_
    refine wa_ifnullN (tgt := 19) dX10_stock_9 (by decide) ?_
    refine wa_aload_n dX10_stock_19 rfl rfl ?_
    refine wa_iconst (v := 1) dX10_stock_20 (by decide) ?_
    refine wa_callV (q := (RX10, TX10, 13)) (As := [.int 1]) dX10_stock_21 lk_X10_76 rfl rfl hx.1.1 rfl rfl (Nat.le_of_ble_eq_true rfl) (Nat.le_of_eq (Nat.zero_add _)) (Nat.le_of_eq (Nat.zero_add _)) (k_X10_refuse 1 hx ?_)
    exact wa_iret dX10_stock_24 rfl (h0 (by first | exact Or.inr hB | exact Or.inl hAq))

theorem k_X10_stamps {G : mm_G} {d : Nat} {Q : Option Value → mm_M → Prop} {M : mm_M} {x : Nat} (k : Int32) (w : Int32) (hx : dsk_ M x) (N : Nat) (pp tk : Nat → Nat) (hN : dN_ M x N pp tk) (w0 : Nat) (hG0 : G.2.2.2.1 0 = .ref w0) (hw0 : mm_sh M w0 = some (.inr (10, 5))) (h0 : (k < 0 ∨ nI N ≤ k) ∨ (w < 0 ∨ nI 5 ≤ w) → Q (some (.int (-1))) M) (h1 : ∀ i r : Nat, k = nI i → i < N → w = nI r → r < 5 → Q (some (.int (mm_I M (tk i) r))) M) : ma_ G jX10_stamps (d + 1) 0 0 [.ref x, .int k, .int w] M Q := by
  refine ma_of [some (.ref x), some (.int k), some (.int w), none] (by decide) rfl (Nat.le_of_ble_eq_true rfl) ?_
  refine wa_aload_n dX10_stamps_0 rfl rfl ?_
  refine wa_iload_n dX10_stamps_1 rfl ?_
  refine wa_callV (q := (RX10, TX10, 13)) (As := [.int k]) dX10_stamps_2 lk_X10_186 rfl rfl hx.1.1 rfl rfl (Nat.le_of_ble_eq_true rfl) (Nat.le_of_eq (Nat.zero_add _)) (Nat.le_of_eq (Nat.zero_add _)) (k_X10_paperAt k N pp tk hx hN (fun i ei hi => ?_) (fun hAi => ?_))
  · subst ei
    have hai := (hN.2.2 i hi).2.1
    refine wa_astore_n dX10_stamps_5 (by decide) rfl rfl rfl ?_
    refine wa_aload_n dX10_stamps_6 rfl rfl ?_
    refine wa_ifnullR dX10_stamps_7 ?_
    refine wa_iload_n dX10_stamps_10 rfl ?_
    refine wa_callS (As := [.int w]) dX10_stamps_11 lk_X10_144 rfl rfl (Nat.le_of_ble_eq_true rfl) (Nat.le_of_eq (Nat.zero_add _)) (Nat.le_of_eq (Nat.zero_add _)) (k_X10_isWorth w w0 hG0 hw0 (fun r er hr => ?_) (fun hB => ?_))
    · subst er
      refine wa_if_ne (tgt := 19) dX10_stamps_14 (by decide) (fun _ => ?_) (fun h9 => absurd h9 (by decide))
      refine wa_aload_n dX10_stamps_19 rfl rfl ?_
      refine wa_iload_n dX10_stamps_20 rfl ?_
      refine wa_callV (q := (RX2, TX2, 9)) (As := [.int (nI r)]) dX10_stamps_21 lk_X10_222 rfl rfl hai rfl rfl (Nat.le_of_ble_eq_true rfl) (Nat.le_of_eq (Nat.zero_add _)) (Nat.le_of_eq (Nat.zero_add _)) (k_X2_stampsOf r (tk i) hai (hN.2.2 i hi).2.2.1 (hN.2.2 i hi).2.2.2 hr ?_)
      exact wa_iret dX10_stamps_24 rfl (h1 i r rfl hi rfl hr)
    · refine wa_if_ne (tgt := 19) dX10_stamps_14 (by decide) (fun h9 => absurd h9 (by decide)) (fun _ => ?_)
      refine wa_iconst (v := -1) dX10_stamps_17 (by decide) ?_
      exact wa_iret dX10_stamps_18 rfl (h0 (by first | exact Or.inr hB | exact Or.inl hAi))
  · refine wa_astore_n dX10_stamps_5 (by decide) rfl rfl rfl ?_
    refine wa_aload_n dX10_stamps_6 rfl rfl ?_
    refine wa_ifnullN (tgt := 17) dX10_stamps_7 (by decide) ?_
    refine wa_iconst (v := -1) dX10_stamps_17 (by decide) ?_
    exact wa_iret dX10_stamps_18 rfl (h0 (by first | exact Or.inr hB | exact Or.inl hAi))

theorem k_X10_about {G : mm_G} {d : Nat} {Q : Option Value → mm_M → Prop} {M : mm_M} {x : Nat} (p : Int32) (w : Int32) (P T : Nat) (pa : Nat → Nat) (hx : dsk_ M x) (hP : dP_ M x P T pa) (w0 : Nat) (hG0 : G.2.2.2.1 0 = .ref w0) (hw0 : mm_sh M w0 = some (.inr (10, 5))) (h0 : p < 0 ∨ nI P ≤ p → Q (some (.int (-1))) M) (a0 : ∀ q : Nat, p = nI q → q < P → w = 0 → Q (some (.int (mm_I M (pa q) 0))) M) (a1 : ∀ q : Nat, p = nI q → q < P → w = 1 → Q (some (.int (mm_I M (pa q) 6))) M) (a2 : ∀ q : Nat, p = nI q → q < P → w = 2 → Q (some (.int (mm_I M (pa q) 7))) M) (a3 : ∀ q : Nat, p = nI q → q < P → w = 3 → Q (some (.int (ab_ (mm_I M x 10) - ab_ (mm_I M (pa q) 1)))) M) (a4 : ∀ q r : Nat, p = nI q → q < P → r < 5 → w - 4 = nI r → Q (some (.int (mm_I M (pa q + 1) r))) M) (aN : ∀ q : Nat, p = nI q → q < P → (w.toInt < 0 ∨ (3 : Nat) < w.toInt) → (w - 4 < 0 ∨ nI 5 ≤ w - 4) → Q (some (.int (-1))) M) : ma_ G jX10_about (d + 2) 0 0 [.ref x, .int p, .int w] M Q := by
  refine ma_of [some (.ref x), some (.int p), some (.int w), none] (by decide) rfl (Nat.le_of_ble_eq_true rfl) ?_
  refine wa_aload_n dX10_about_0 rfl rfl ?_
  refine wa_iload_n dX10_about_1 rfl ?_
  refine wa_callV (q := (RX10, TX10, 13)) (As := [.int p]) dX10_about_2 lk_X10_119 rfl rfl hx.1.1 rfl rfl (Nat.le_of_ble_eq_true rfl) (Nat.le_of_eq (Nat.zero_add _)) (Nat.le_of_eq (Nat.zero_add _)) (k_X10_portAt p P T pa hx hP (fun q eq hq => ?_) (fun hAq => ?_))
  · subst eq
    have hpq := (hP.2.2.2 q hq).2.1
    refine wa_astore_n dX10_about_5 (by decide) rfl rfl rfl ?_
    refine wa_aload_n dX10_about_6 rfl rfl ?_
    refine wa_ifnonnullR (tgt := 12) dX10_about_7 (by decide) ?_
    refine wa_iload_n dX10_about_12 rfl ?_
    rcases sw_of w 3 (by decide) with ⟨j_, hj_, rfl⟩ | hO13
    · rcases (by omega : j_ = 0 ∨ j_ = 1 ∨ j_ = 2 ∨ j_ = 3) with rfl | rfl | rfl | rfl
      · refine wa_tableIn (off := 31) (tgt := 44) dX10_about_13 (by decide) (by decide) (by decide) (by decide) ?_
        refine wa_aload_n dX10_about_44 rfl rfl ?_
        refine wa_getI (q := (RX3, TX3, 8)) (ci := 3) (k := 0) dX10_about_45 rfl (by decide) wf_X10_223 hpq.1 rfl ?_
        exact wa_iret dX10_about_48 rfl (a0 q rfl hq rfl)
      · refine wa_tableIn (off := 36) (tgt := 49) dX10_about_13 (by decide) (by decide) (by decide) (by decide) ?_
        refine wa_aload_n dX10_about_49 rfl rfl ?_
        refine wa_getI (q := (RX3, TX3, 8)) (ci := 3) (k := 6) dX10_about_50 rfl (by decide) wf_X10_226 hpq.1 rfl ?_
        exact wa_iret dX10_about_53 rfl (a1 q rfl hq rfl)
      · refine wa_tableIn (off := 41) (tgt := 54) dX10_about_13 (by decide) (by decide) (by decide) (by decide) ?_
        refine wa_aload_n dX10_about_54 rfl rfl ?_
        refine wa_getI (q := (RX3, TX3, 8)) (ci := 3) (k := 7) dX10_about_55 rfl (by decide) wf_X10_161 hpq.1 rfl ?_
        exact wa_iret dX10_about_58 rfl (a2 q rfl hq rfl)
      · refine wa_tableIn (off := 46) (tgt := 59) dX10_about_13 (by decide) (by decide) (by decide) (by decide) ?_
        refine wa_aload_n dX10_about_59 rfl rfl ?_
        refine wa_aload_n dX10_about_60 rfl rfl ?_
        refine wa_getI (q := (RX10, TX10, 13)) (ci := 10) (k := 10) dX10_about_61 rfl (by decide) wf_X10_67 hx.1.1 rfl ?_
        refine wa_callV (q := (RX3, TX3, 8)) (As := [.int (mm_I M x 10)]) dX10_about_64 lk_X10_229 rfl rfl hpq.1 rfl rfl (Nat.le_of_ble_eq_true rfl) (Nat.le_of_eq (Nat.zero_add _)) (Nat.le_of_eq (Nat.zero_add _)) (k_X3_accountsSent _ hpq ?_)
        exact wa_iret dX10_about_67 rfl (a3 q rfl hq rfl)
    · refine wa_tableOut (tgt := 68) dX10_about_13 hO13 (by decide) ?_
      refine wa_iload_n dX10_about_68 rfl ?_
      refine wa_iconst (v := 4) dX10_about_69 (by decide) ?_
      refine wa_isub dX10_about_70 ?_
      refine wa_callS (As := [.int (w - 4)]) dX10_about_71 lk_X10_144 rfl rfl (Nat.le_of_ble_eq_true rfl) (Nat.le_of_eq (Nat.zero_add _)) (Nat.le_of_eq (Nat.zero_add _)) (k_X10_isWorth (w - 4) w0 hG0 hw0 (fun r er hr => ?_) (fun hB => ?_))
      · refine wa_if_eq (tgt := 87) dX10_about_74 (by decide) (fun h9 => absurd h9 (by decide)) (fun _ => ?_)
        refine wa_aload_n dX10_about_77 rfl rfl ?_
        refine wa_iload_n dX10_about_78 rfl ?_
        refine wa_iconst (v := 4) dX10_about_79 (by decide) ?_
        refine wa_isub dX10_about_80 ?_
        rw [er]
        refine wa_callV (q := (RX3, TX3, 8)) (As := [.int (nI r)]) dX10_about_81 lk_X10_147 rfl rfl hpq.1 rfl rfl (Nat.le_of_ble_eq_true rfl) (Nat.le_of_eq (Nat.zero_add _)) (Nat.le_of_eq (Nat.zero_add _)) (k_X3_stampsOf r hpq hr ?_)
        refine wa_goto (tgt := 88) dX10_about_84 (by decide) ?_
        exact wa_iret dX10_about_88 rfl (a4 q r rfl hq hr er)
      · refine wa_if_eq (tgt := 87) dX10_about_74 (by decide) (fun _ => ?_) (fun h9 => absurd h9 (by decide))
        refine wa_iconst (v := -1) dX10_about_87 (by decide) ?_
        exact wa_iret dX10_about_88 rfl (aN q rfl hq hO13 hB)
  · refine wa_astore_n dX10_about_5 (by decide) rfl rfl rfl ?_
    refine wa_aload_n dX10_about_6 rfl rfl ?_
    refine wa_ifnonnullN dX10_about_7 ?_
    refine wa_iconst (v := -1) dX10_about_10 (by decide) ?_
    exact wa_iret dX10_about_11 rfl (h0 hAq)

theorem k_X10_paper {G : mm_G} {d : Nat} {Q : Option Value → mm_M → Prop} {M : mm_M} {x : Nat} (k : Int32) (w : Int32) (P T : Nat) (pa : Nat → Nat) (hx : dsk_ M x) (hP : dP_ M x P T pa) (N : Nat) (pp tk : Nat → Nat) (hN : dN_ M x N pp tk) (pq : Nat → Nat) (hpq : ∀ i, i < N → mm_I M (pp i) 0 = nI (pq i) ∧ pq i < P) (w0 : Nat) (hG0 : G.2.2.2.1 0 = .ref w0) (hw0 : mm_sh M w0 = some (.inr (10, 5))) (h0 : k < 0 ∨ nI N ≤ k → Q (some (.int (-1))) M) (hX : ∀ i : Nat, k = nI i → i < N → (w.toInt < 0 ∨ (8 : Nat) < w.toInt) → Q (some (.int (-1))) M) (b0 : ∀ i : Nat, k = nI i → i < N → w = nI 0 → Q (some (.int (mm_I M (pp i) 0))) M) (b1 : ∀ i : Nat, k = nI i → i < N → w = nI 1 → Q (some (.int (mm_I M (pp i) 1))) M) (b2 : ∀ i : Nat, k = nI i → i < N → w = nI 2 → Q (some (.int (mm_I M (pp i) 2))) M) (b3 : ∀ i : Nat, k = nI i → i < N → w = nI 3 → Q (some (.int (mm_I M (pp i) 3))) M) (b4 : ∀ i : Nat, k = nI i → i < N → w = nI 4 → Q (some (.int (mm_I M (pp i) 5))) M) (b5 : ∀ i : Nat, k = nI i → i < N → w = nI 5 → Q (some (.int (mm_I M (pp i) 6))) M) (b6 : ∀ i : Nat, k = nI i → i < N → w = nI 6 → Q (some (.int (mm_I M (pp i) 7))) M) (b7 : ∀ i : Nat, k = nI i → i < N → w = nI 7 → Q (some (.int (si_ (fun w => mm_I M (tk i) w) 5))) M) (b8 : ∀ i : Nat, k = nI i → i < N → w = nI 8 → kd_ M (pp i) (pa (pq i)) ≤ mm_I M x 10 → Q (some (.int (kd_ M (pp i) (pa (pq i))))) M) (b9 : ∀ i : Nat, k = nI i → i < N → w = nI 8 → mm_I M x 10 < kd_ M (pp i) (pa (pq i)) → Q (some (.int (-2))) M) : ma_ G jX10_paper (d + 3) 0 0 [.ref x, .int k, .int w] M Q := by
  refine ma_of [some (.ref x), some (.int k), some (.int w), none] (by decide) rfl (Nat.le_of_ble_eq_true rfl) ?_
  refine wa_aload_n dX10_paper_0 rfl rfl ?_
  refine wa_iload_n dX10_paper_1 rfl ?_
  refine wa_callV (q := (RX10, TX10, 13)) (As := [.int k]) dX10_paper_2 lk_X10_186 rfl rfl hx.1.1 rfl rfl (Nat.le_of_ble_eq_true rfl) (Nat.le_of_eq (Nat.zero_add _)) (Nat.le_of_eq (Nat.zero_add _)) (k_X10_paperAt k N pp tk hx hN (fun i ei hi => ?_) (fun hAi => ?_))
  · subst ei
    have hai := (hN.2.2 i hi).2.1
    refine wa_astore_n dX10_paper_5 (by decide) rfl rfl rfl ?_
    refine wa_aload_n dX10_paper_6 rfl rfl ?_
    refine wa_ifnonnullR (tgt := 12) dX10_paper_7 (by decide) ?_
    refine wa_iload_n dX10_paper_12 rfl ?_
    rcases sw_of w 8 (by decide) with ⟨j_, hj_, rfl⟩ | hO13
    · rcases (by omega : j_ = 0 ∨ j_ = 1 ∨ j_ = 2 ∨ j_ = 3 ∨ j_ = 4 ∨ j_ = 5 ∨ j_ = 6 ∨ j_ = 7 ∨ j_ = 8) with rfl | rfl | rfl | rfl | rfl | rfl | rfl | rfl | rfl
      · refine wa_tableIn (off := 51) (tgt := 64) dX10_paper_13 (by decide) (by decide) (by decide) (by decide) ?_
        refine wa_aload_n dX10_paper_64 rfl rfl ?_
        refine wa_getI (q := (RX2, TX2, 9)) (ci := 2) (k := 0) dX10_paper_65 rfl (by decide) wf_X10_190 hai rfl ?_
        exact wa_iret dX10_paper_68 rfl (b0 i rfl hi rfl)
      · refine wa_tableIn (off := 56) (tgt := 69) dX10_paper_13 (by decide) (by decide) (by decide) (by decide) ?_
        refine wa_aload_n dX10_paper_69 rfl rfl ?_
        refine wa_getI (q := (RX2, TX2, 9)) (ci := 2) (k := 1) dX10_paper_70 rfl (by decide) wf_X10_193 hai rfl ?_
        exact wa_iret dX10_paper_73 rfl (b1 i rfl hi rfl)
      · refine wa_tableIn (off := 61) (tgt := 74) dX10_paper_13 (by decide) (by decide) (by decide) (by decide) ?_
        refine wa_aload_n dX10_paper_74 rfl rfl ?_
        refine wa_getI (q := (RX2, TX2, 9)) (ci := 2) (k := 2) dX10_paper_75 rfl (by decide) wf_X10_196 hai rfl ?_
        exact wa_iret dX10_paper_78 rfl (b2 i rfl hi rfl)
      · refine wa_tableIn (off := 66) (tgt := 79) dX10_paper_13 (by decide) (by decide) (by decide) (by decide) ?_
        refine wa_aload_n dX10_paper_79 rfl rfl ?_
        refine wa_getI (q := (RX2, TX2, 9)) (ci := 2) (k := 3) dX10_paper_80 rfl (by decide) wf_X10_199 hai rfl ?_
        exact wa_iret dX10_paper_83 rfl (b3 i rfl hi rfl)
      · refine wa_tableIn (off := 71) (tgt := 84) dX10_paper_13 (by decide) (by decide) (by decide) (by decide) ?_
        refine wa_aload_n dX10_paper_84 rfl rfl ?_
        refine wa_getI (q := (RX2, TX2, 9)) (ci := 2) (k := 5) dX10_paper_85 rfl (by decide) wf_X10_202 hai rfl ?_
        exact wa_iret dX10_paper_88 rfl (b4 i rfl hi rfl)
      · refine wa_tableIn (off := 76) (tgt := 89) dX10_paper_13 (by decide) (by decide) (by decide) (by decide) ?_
        refine wa_aload_n dX10_paper_89 rfl rfl ?_
        refine wa_getI (q := (RX2, TX2, 9)) (ci := 2) (k := 6) dX10_paper_90 rfl (by decide) wf_X10_205 hai rfl ?_
        exact wa_iret dX10_paper_93 rfl (b5 i rfl hi rfl)
      · refine wa_tableIn (off := 81) (tgt := 94) dX10_paper_13 (by decide) (by decide) (by decide) (by decide) ?_
        refine wa_aload_n dX10_paper_94 rfl rfl ?_
        refine wa_getI (q := (RX2, TX2, 9)) (ci := 2) (k := 7) dX10_paper_95 rfl (by decide) wf_X10_208 hai rfl ?_
        exact wa_iret dX10_paper_98 rfl (b6 i rfl hi rfl)
      · refine wa_tableIn (off := 86) (tgt := 99) dX10_paper_13 (by decide) (by decide) (by decide) (by decide) ?_
        refine wa_aload_n dX10_paper_99 rfl rfl ?_
        refine wa_callV (q := (RX2, TX2, 9)) (As := []) dX10_paper_100 lk_X10_211 rfl rfl hai rfl rfl (Nat.le_of_ble_eq_true rfl) (Nat.le_of_eq (Nat.zero_add _)) (Nat.le_of_eq (Nat.zero_add _)) (k_X2_allStamps (tk i) w0 hG0 hw0 hai (hN.2.2 i hi).2.2.1 (hN.2.2 i hi).2.2.2 ?_)
        exact wa_iret dX10_paper_103 rfl (b7 i rfl hi rfl)
      · refine wa_tableIn (off := 91) (tgt := 104) dX10_paper_13 (by decide) (by decide) (by decide) (by decide) ?_
        refine wa_aload_n dX10_paper_104 rfl rfl ?_
        refine wa_aload_n dX10_paper_105 rfl rfl ?_
        refine wa_aload_n dX10_paper_106 rfl rfl ?_
        refine wa_getI (q := (RX10, TX10, 13)) (ci := 10) (k := 10) dX10_paper_107 rfl (by decide) wf_X10_67 hx.1.1 rfl ?_
        refine wa_callV (q := (RX10, TX10, 13)) (As := [.ref (pp i), .int (mm_I M x 10)]) dX10_paper_110 lk_X10_215 rfl rfl hx.1.1 rfl rfl (Nat.le_of_ble_eq_true rfl) (Nat.le_of_eq (Nat.zero_add _)) (Nat.le_of_eq (Nat.zero_add _)) (k_X10_isKnown (pp i) _ P T pa hx hP (pq i) hai (hpq i hi).1 (hpq i hi).2 (fun hE => ?_) (fun hE => ?_))
        · refine wa_if_eq (tgt := 124) dX10_paper_113 (by decide) (fun h9 => absurd h9 (by decide)) (fun _ => ?_)
          refine wa_aload_n dX10_paper_116 rfl rfl ?_
          refine wa_aload_n dX10_paper_117 rfl rfl ?_
          refine wa_callV (q := (RX10, TX10, 13)) (As := [.ref (pp i)]) dX10_paper_118 lk_X10_219 rfl rfl hx.1.1 rfl rfl (Nat.le_of_ble_eq_true rfl) (Nat.le_of_eq (Nat.zero_add _)) (Nat.le_of_eq (Nat.zero_add _)) (k_X10_knownDay (pp i) P T pa hx hP (pq i) hai (hpq i hi).1 (hpq i hi).2 ?_)
          refine wa_goto (tgt := 126) dX10_paper_121 (by decide) ?_
          exact wa_iret dX10_paper_126 rfl (b8 i rfl hi rfl hE)
        · refine wa_if_eq (tgt := 124) dX10_paper_113 (by decide) (fun _ => ?_) (fun h9 => absurd h9 (by decide))
          refine wa_bipush (v := -2) dX10_paper_124 (by decide) ?_
          exact wa_iret dX10_paper_126 rfl (b9 i rfl hi rfl hE)
    · refine wa_tableOut (tgt := 127) dX10_paper_13 hO13 (by decide) ?_
      refine wa_iconst (v := -1) dX10_paper_127 (by decide) ?_
      exact wa_iret dX10_paper_128 rfl (hX i rfl hi hO13)
  · refine wa_astore_n dX10_paper_5 (by decide) rfl rfl rfl ?_
    refine wa_aload_n dX10_paper_6 rfl rfl ?_
    refine wa_ifnonnullN dX10_paper_7 ?_
    refine wa_iconst (v := -1) dX10_paper_10 (by decide) ?_
    exact wa_iret dX10_paper_11 rfl (h0 hAi)

theorem k_X10_known {G : mm_G} {d : Nat} {Q : Option Value → mm_M → Prop} {M : mm_M} {x : Nat} (p : Int32) (dd : Int32) (P T : Nat) (pa : Nat → Nat) (hx : dsk_ M x) (hP : dP_ M x P T pa) (N : Nat) (pp tk : Nat → Nat) (hN : dN_ M x N pp tk) (pq : Nat → Nat) (hpq : ∀ i, i < N → mm_I M (pp i) 0 = nI (pq i) ∧ pq i < P) (h0 : (p < 0 ∨ nI P ≤ p) ∨ (dd < 0 ∨ mm_I M x 10 < dd) → Q (some (.int (-1))) M) (h1 : ∀ q : Nat, p = nI q → q < P → ¬ dd < 0 → dd ≤ mm_I M x 10 → Q (some (.int (si_ (fun i => if mm_I M (pp i) 0 = p ∧ kd_ M (pp i) (pa (pq i)) ≤ dd then 1 else 0) N))) M) : ma_ G jX10_known (d + 4) 0 0 [.ref x, .int p, .int dd] M Q := by
  refine ma_of [some (.ref x), some (.int p), some (.int dd), none, none] (by decide) rfl (Nat.le_of_ble_eq_true rfl) ?_
  have hN2 := hN.2.1
  have lp : Q (some (.int (si_ (fun i => if mm_I M (pp i) 0 = p ∧ kd_ M (pp i) (pa (pq i)) ≤ dd then 1 else 0) N))) M → ∀ (r i : Nat), N - i = r → i ≤ N → wa_ 0 G jX10_known (d + 4) 0 0 Q 0 0 M 23 [some (.ref x), some (.int p), some (.int dd), some (.int (si_ (fun i => if mm_I M (pp i) 0 = p ∧ kd_ M (pp i) (pa (pq i)) ≤ dd then 1 else 0) i)), some (.int (nI i))] [] := by
    intro hq9 r
    induction r with
    | zero =>
      intro i hr hi
      have hiN : i = N := by omega
      subst hiN
      refine wa_iload dX10_known_23 rfl ?_
      refine wa_aload_n dX10_known_25 rfl rfl ?_
      refine wa_getI (q := (RX10, TX10, 13)) (ci := 10) (k := 9) dX10_known_26 rfl (by decide) wf_X10_64 hx.1.1 rfl ?_
      rw [hN.1]
      refine wa_icmp_ge (tgt := 52) dX10_known_29 (by decide) (fun hT29 => ?_) (fun hF29 => absurd (nI_le (Nat.le_refl _) (by omega)) hF29)
      refine wa_iload_n dX10_known_52 rfl ?_
      exact wa_iret dX10_known_53 rfl (hq9)
    | succ r ih =>
      intro i hr hi
      have ih9 := ih (i + 1) (by omega) (by omega)
      refine wa_iload dX10_known_23 rfl ?_
      refine wa_aload_n dX10_known_25 rfl rfl ?_
      refine wa_getI (q := (RX10, TX10, 13)) (ci := 10) (k := 9) dX10_known_26 rfl (by decide) wf_X10_64 hx.1.1 rfl ?_
      rw [hN.1]
      refine wa_icmp_ge (tgt := 52) dX10_known_29 (by decide) (fun hT29 => absurd hT29 (nI_ge (by omega) (by omega))) (fun hF29 => ?_)
      refine wa_aload_n dX10_known_32 rfl rfl ?_
      refine wa_iload_n dX10_known_33 rfl ?_
      refine wa_iload dX10_known_34 rfl ?_
      refine wa_iload_n dX10_known_36 rfl ?_
      refine wa_callV (q := (RX10, TX10, 13)) (As := [.int p, .int (nI i), .int (dd)]) dX10_known_37 lk_X10_235 rfl rfl hx.1.1 rfl rfl (Nat.le_of_ble_eq_true rfl) (Nat.le_of_eq (Nat.zero_add _)) (Nat.le_of_eq (Nat.zero_add _)) (k_X10_isKnownOf p i _ P T pa hx hP N pp tk hN pq hpq (by omega) (fun hE hF => ?_) (fun hE => ?_))
      · refine wa_if_eq (tgt := 46) dX10_known_40 (by decide) (fun h9 => absurd h9 (by decide)) (fun _ => ?_)
        refine wa_iinc (v := si_ (fun i => if mm_I M (pp i) 0 = p ∧ kd_ M (pp i) (pa (pq i)) ≤ dd then 1 else 0) (i + 1)) dX10_known_43 rfl (si_1 (if_pos ⟨hE, hF⟩)) (by decide) rfl rfl ?_
        refine wa_iinc (v := nI (i + 1)) dX10_known_46 rfl (ni_i1 i) (by decide) rfl rfl ?_
        refine wa_goto (tgt := 23) dX10_known_49 (by decide) ?_
        first | exact ih9 | (rw [← si_1 (g := fun i => if mm_I M (pp i) 0 = p ∧ kd_ M (pp i) (pa (pq i)) ≤ dd then 1 else 0) (i := i) (if_pos ⟨hE, hF⟩)] at ih9; exact ih9) | (rw [← si_n (g := fun i => if mm_I M (pp i) 0 = p ∧ kd_ M (pp i) (pa (pq i)) ≤ dd then 1 else 0) (i := i) (if_neg hE)] at ih9; exact ih9)
      · refine wa_if_eq (tgt := 46) dX10_known_40 (by decide) (fun _ => ?_) (fun h9 => absurd h9 (by decide))
        refine wa_iinc (v := nI (i + 1)) dX10_known_46 rfl (ni_i1 i) (by decide) rfl rfl ?_
        refine wa_goto (tgt := 23) dX10_known_49 (by decide) ?_
        first | exact ih9 | (rw [← si_1 (g := fun i => if mm_I M (pp i) 0 = p ∧ kd_ M (pp i) (pa (pq i)) ≤ dd then 1 else 0) (i := i) (if_pos ⟨hE, hF⟩)] at ih9; exact ih9) | (rw [← si_n (g := fun i => if mm_I M (pp i) 0 = p ∧ kd_ M (pp i) (pa (pq i)) ≤ dd then 1 else 0) (i := i) (if_neg hE)] at ih9; exact ih9)
  refine wa_aload_n dX10_known_0 rfl rfl ?_
  refine wa_iload_n dX10_known_1 rfl ?_
  refine wa_callV (q := (RX10, TX10, 13)) (As := [.int p]) dX10_known_2 lk_X10_119 rfl rfl hx.1.1 rfl rfl (Nat.le_of_ble_eq_true rfl) (Nat.le_of_eq (Nat.zero_add _)) (Nat.le_of_eq (Nat.zero_add _)) (k_X10_portAt p P T pa hx hP (fun q eq hq => ?_) (fun hAq => ?_))
  · have hpq9 := (hP.2.2.2 q hq).2.1
    refine wa_ifnullR dX10_known_5 ?_
    refine wa_aload_n dX10_known_8 rfl rfl ?_
    refine wa_iload_n dX10_known_9 rfl ?_
    refine wa_callV (q := (RX10, TX10, 13)) (As := [.int dd]) dX10_known_10 lk_X10_232 rfl rfl hx.1.1 rfl rfl (Nat.le_of_ble_eq_true rfl) (Nat.le_of_eq (Nat.zero_add _)) (Nat.le_of_eq (Nat.zero_add _)) (k_X10_isPast dd hx (fun hC hD => ?_) (fun hB => ?_))
    · refine wa_if_ne (tgt := 18) dX10_known_13 (by decide) (fun _ => ?_) (fun h9 => absurd h9 (by decide))
      refine wa_iconst (v := 0) dX10_known_18 (by decide) ?_
      refine wa_istore_n dX10_known_19 (by decide) rfl rfl ?_
      refine wa_iconst (v := 0) dX10_known_20 (by decide) ?_
      refine wa_istore dX10_known_21 (by decide) rfl rfl ?_
      exact lp (h1 q eq hq hC hD) N 0 (by omega) (by omega)
    · refine wa_if_ne (tgt := 18) dX10_known_13 (by decide) (fun h9 => absurd h9 (by decide)) (fun _ => ?_)
      refine wa_iconst (v := -1) dX10_known_16 (by decide) ?_
      exact wa_iret dX10_known_17 rfl (h0 (by first | exact Or.inr hB | exact Or.inl hAq))
  · refine wa_ifnullN (tgt := 16) dX10_known_5 (by decide) ?_
    refine wa_iconst (v := -1) dX10_known_16 (by decide) ?_
    exact wa_iret dX10_known_17 rfl (h0 (by first | exact Or.inr hB | exact Or.inl hAq))

theorem k_X10_sum {G : mm_G} {d : Nat} {Q : Option Value → mm_M → Prop} {M : mm_M} {x : Nat} (p : Int32) (dd : Int32) (P T : Nat) (pa : Nat → Nat) (hx : dsk_ M x) (hP : dP_ M x P T pa) (N : Nat) (pp tk : Nat → Nat) (hN : dN_ M x N pp tk) (pq : Nat → Nat) (hpq : ∀ i, i < N → mm_I M (pp i) 0 = nI (pq i) ∧ pq i < P) (h0 : (p < 0 ∨ nI P ≤ p) ∨ (dd < 0 ∨ mm_I M x 10 < dd) → Q (some (.int (-1))) M) (h1 : ∀ q : Nat, p = nI q → q < P → ¬ dd < 0 → dd ≤ mm_I M x 10 → Q (some (.int (si_ (fun i => if mm_I M (pp i) 0 = p ∧ kd_ M (pp i) (pa (pq i)) ≤ dd then mm_I M (pp i) 6 else 0) N))) M) : ma_ G jX10_sum (d + 4) 0 0 [.ref x, .int p, .int dd] M Q := by
  refine ma_of [some (.ref x), some (.int p), some (.int dd), none, none] (by decide) rfl (Nat.le_of_ble_eq_true rfl) ?_
  have hN2 := hN.2.1
  have lp : Q (some (.int (si_ (fun i => if mm_I M (pp i) 0 = p ∧ kd_ M (pp i) (pa (pq i)) ≤ dd then mm_I M (pp i) 6 else 0) N))) M → ∀ (r i : Nat), N - i = r → i ≤ N → wa_ 0 G jX10_sum (d + 4) 0 0 Q 0 0 M 23 [some (.ref x), some (.int p), some (.int dd), some (.int (si_ (fun i => if mm_I M (pp i) 0 = p ∧ kd_ M (pp i) (pa (pq i)) ≤ dd then mm_I M (pp i) 6 else 0) i)), some (.int (nI i))] [] := by
    intro hq9 r
    induction r with
    | zero =>
      intro i hr hi
      have hiN : i = N := by omega
      subst hiN
      refine wa_iload dX10_sum_23 rfl ?_
      refine wa_aload_n dX10_sum_25 rfl rfl ?_
      refine wa_getI (q := (RX10, TX10, 13)) (ci := 10) (k := 9) dX10_sum_26 rfl (by decide) wf_X10_64 hx.1.1 rfl ?_
      rw [hN.1]
      refine wa_icmp_ge (tgt := 58) dX10_sum_29 (by decide) (fun hT29 => ?_) (fun hF29 => absurd (nI_le (Nat.le_refl _) (by omega)) hF29)
      refine wa_iload_n dX10_sum_58 rfl ?_
      exact wa_iret dX10_sum_59 rfl (hq9)
    | succ r ih =>
      intro i hr hi
      have ih9 := ih (i + 1) (by omega) (by omega)
      refine wa_iload dX10_sum_23 rfl ?_
      refine wa_aload_n dX10_sum_25 rfl rfl ?_
      refine wa_getI (q := (RX10, TX10, 13)) (ci := 10) (k := 9) dX10_sum_26 rfl (by decide) wf_X10_64 hx.1.1 rfl ?_
      rw [hN.1]
      refine wa_icmp_ge (tgt := 58) dX10_sum_29 (by decide) (fun hT29 => absurd hT29 (nI_ge (by omega) (by omega))) (fun hF29 => ?_)
      refine wa_aload_n dX10_sum_32 rfl rfl ?_
      refine wa_iload_n dX10_sum_33 rfl ?_
      refine wa_iload dX10_sum_34 rfl ?_
      refine wa_iload_n dX10_sum_36 rfl ?_
      refine wa_callV (q := (RX10, TX10, 13)) (As := [.int p, .int (nI i), .int (dd)]) dX10_sum_37 lk_X10_235 rfl rfl hx.1.1 rfl rfl (Nat.le_of_ble_eq_true rfl) (Nat.le_of_eq (Nat.zero_add _)) (Nat.le_of_eq (Nat.zero_add _)) (k_X10_isKnownOf p i _ P T pa hx hP N pp tk hN pq hpq (by omega) (fun hE hF => ?_) (fun hE => ?_))
      · refine wa_if_eq (tgt := 52) dX10_sum_40 (by decide) (fun h9 => absurd h9 (by decide)) (fun _ => ?_)
        refine wa_iload_n dX10_sum_43 rfl ?_
        refine wa_aload_n dX10_sum_44 rfl rfl ?_
        refine wa_iload dX10_sum_45 rfl ?_
        refine wa_callV (q := (RX10, TX10, 13)) (As := [.int (nI i)]) dX10_sum_47 lk_X10_238 rfl rfl hx.1.1 rfl rfl (Nat.le_of_ble_eq_true rfl) (Nat.le_of_eq (Nat.zero_add _)) (Nat.le_of_eq (Nat.zero_add _)) (k_X10_chargedFor i N pp tk hN hx (by omega) ?_)
        refine wa_iadd dX10_sum_50 ?_
        refine wa_istore_n dX10_sum_51 (by decide) rfl rfl ?_
        refine wa_iinc (v := nI (i + 1)) dX10_sum_52 rfl (ni_i1 i) (by decide) rfl rfl ?_
        refine wa_goto (tgt := 23) dX10_sum_55 (by decide) ?_
        first | exact ih9 | (rw [← si_1 (g := fun i => if mm_I M (pp i) 0 = p ∧ kd_ M (pp i) (pa (pq i)) ≤ dd then mm_I M (pp i) 6 else 0) (i := i) (if_pos ⟨hE, hF⟩)] at ih9; exact ih9) | (rw [← si_n (g := fun i => if mm_I M (pp i) 0 = p ∧ kd_ M (pp i) (pa (pq i)) ≤ dd then mm_I M (pp i) 6 else 0) (i := i) (if_neg hE)] at ih9; exact ih9)
      · refine wa_if_eq (tgt := 52) dX10_sum_40 (by decide) (fun _ => ?_) (fun h9 => absurd h9 (by decide))
        refine wa_iinc (v := nI (i + 1)) dX10_sum_52 rfl (ni_i1 i) (by decide) rfl rfl ?_
        refine wa_goto (tgt := 23) dX10_sum_55 (by decide) ?_
        first | exact ih9 | (rw [← si_1 (g := fun i => if mm_I M (pp i) 0 = p ∧ kd_ M (pp i) (pa (pq i)) ≤ dd then mm_I M (pp i) 6 else 0) (i := i) (if_pos ⟨hE, hF⟩)] at ih9; exact ih9) | (rw [← si_n (g := fun i => if mm_I M (pp i) 0 = p ∧ kd_ M (pp i) (pa (pq i)) ≤ dd then mm_I M (pp i) 6 else 0) (i := i) (if_neg hE)] at ih9; exact ih9)
  refine wa_aload_n dX10_sum_0 rfl rfl ?_
  refine wa_iload_n dX10_sum_1 rfl ?_
  refine wa_callV (q := (RX10, TX10, 13)) (As := [.int p]) dX10_sum_2 lk_X10_119 rfl rfl hx.1.1 rfl rfl (Nat.le_of_ble_eq_true rfl) (Nat.le_of_eq (Nat.zero_add _)) (Nat.le_of_eq (Nat.zero_add _)) (k_X10_portAt p P T pa hx hP (fun q eq hq => ?_) (fun hAq => ?_))
  · have hpq9 := (hP.2.2.2 q hq).2.1
    refine wa_ifnullR dX10_sum_5 ?_
    refine wa_aload_n dX10_sum_8 rfl rfl ?_
    refine wa_iload_n dX10_sum_9 rfl ?_
    refine wa_callV (q := (RX10, TX10, 13)) (As := [.int dd]) dX10_sum_10 lk_X10_232 rfl rfl hx.1.1 rfl rfl (Nat.le_of_ble_eq_true rfl) (Nat.le_of_eq (Nat.zero_add _)) (Nat.le_of_eq (Nat.zero_add _)) (k_X10_isPast dd hx (fun hC hD => ?_) (fun hB => ?_))
    · refine wa_if_ne (tgt := 18) dX10_sum_13 (by decide) (fun _ => ?_) (fun h9 => absurd h9 (by decide))
      refine wa_iconst (v := 0) dX10_sum_18 (by decide) ?_
      refine wa_istore_n dX10_sum_19 (by decide) rfl rfl ?_
      refine wa_iconst (v := 0) dX10_sum_20 (by decide) ?_
      refine wa_istore dX10_sum_21 (by decide) rfl rfl ?_
      exact lp (h1 q eq hq hC hD) N 0 (by omega) (by omega)
    · refine wa_if_ne (tgt := 18) dX10_sum_13 (by decide) (fun h9 => absurd h9 (by decide)) (fun _ => ?_)
      refine wa_iconst (v := -1) dX10_sum_16 (by decide) ?_
      exact wa_iret dX10_sum_17 rfl (h0 (by first | exact Or.inr hB | exact Or.inl hAq))
  · refine wa_ifnullN (tgt := 16) dX10_sum_5 (by decide) ?_
    refine wa_iconst (v := -1) dX10_sum_16 (by decide) ?_
    exact wa_iret dX10_sum_17 rfl (h0 (by first | exact Or.inr hB | exact Or.inl hAq))

theorem k_X10_homes {G : mm_G} {d : Nat} {Q : Option Value → mm_M → Prop} {M : mm_M} {x : Nat} (k : Int32) (T : Nat) (ta la : Nat → Nat) (N : Nat) (pp tk : Nat → Nat) (hN : dN_ M x N pp tk) (hx : dsk_ M x) (hT : dT_ M x T ta la) (h0 : k < 0 ∨ nI N ≤ k → Q (some (.int (-10000))) M) (h1 : ∀ i : Nat, k = nI i → i < N → Q (some (.int (hg_ M ta la (pp i) T))) M) : ma_ G jX10_homes (d + 5) 0 0 [.ref x, .int k] M Q := by
  refine ma_of [some (.ref x), some (.int k)] (by decide) rfl (Nat.le_of_ble_eq_true rfl) ?_
  refine wa_aload_n dX10_homes_0 rfl rfl ?_
  refine wa_iload_n dX10_homes_1 rfl ?_
  refine wa_callV (q := (RX10, TX10, 13)) (As := [.int k]) dX10_homes_2 lk_X10_241 rfl rfl hx.1.1 rfl rfl (Nat.le_of_ble_eq_true rfl) (Nat.le_of_eq (Nat.zero_add _)) (Nat.le_of_eq (Nat.zero_add _)) (k_X10_homeFee k T ta la N pp tk hN hx hT (fun hA => ?_) (fun i ei hi => ?_))
  · exact wa_iret dX10_homes_5 rfl (h0 hA)
  · exact wa_iret dX10_homes_5 rfl (h1 i ei hi)

theorem k_X10_difference {G : mm_G} {d : Nat} {Q : Option Value → mm_M → Prop} {M : mm_M} {x : Nat} (p : Int32) (P T : Nat) (pa : Nat → Nat) (hx : dsk_ M x) (hP : dP_ M x P T pa) (N : Nat) (pp tk : Nat → Nat) (hN : dN_ M x N pp tk) (pq : Nat → Nat) (hpq : ∀ i, i < N → mm_I M (pp i) 0 = nI (pq i) ∧ pq i < P) (ta la : Nat → Nat) (hT : dT_ M x T ta la) (hQ : Q (some (.int (si_ (fun i => if mm_I M (pp i) 0 = p ∧ kd_ M (pp i) (pa (pq i)) ≤ mm_I M x 10 ∧ ¬ hg_ M ta la (pp i) T = -10000 then mm_I M (pp i) 6 - hg_ M ta la (pp i) T else 0) N))) M) : ma_ G jX10_difference (d + 5) 0 0 [.ref x, .int p] M Q := by
  refine ma_of [some (.ref x), some (.int p), none, none, none] (by decide) rfl (Nat.le_of_ble_eq_true rfl) ?_
  have hN2 := hN.2.1
  have lp : Q (some (.int (si_ (fun i => if mm_I M (pp i) 0 = p ∧ kd_ M (pp i) (pa (pq i)) ≤ mm_I M x 10 ∧ ¬ hg_ M ta la (pp i) T = -10000 then mm_I M (pp i) 6 - hg_ M ta la (pp i) T else 0) N))) M → ∀ (r i : Nat), N - i = r → i ≤ N → wa_ 0 G jX10_difference (d + 5) 0 0 Q 0 0 M 4 [some (.ref x), some (.int p), some (.int (si_ (fun i => if mm_I M (pp i) 0 = p ∧ kd_ M (pp i) (pa (pq i)) ≤ mm_I M x 10 ∧ ¬ hg_ M ta la (pp i) T = -10000 then mm_I M (pp i) 6 - hg_ M ta la (pp i) T else 0) i)), some (.int (nI i)), none] [] := by
    intro hq9 r
    induction r with
    | zero =>
      intro i hr hi
      have hiN : i = N := by omega
      subst hiN
      refine wa_iload_n dX10_difference_4 rfl ?_
      refine wa_aload_n dX10_difference_5 rfl rfl ?_
      refine wa_getI (q := (RX10, TX10, 13)) (ci := 10) (k := 9) dX10_difference_6 rfl (by decide) wf_X10_64 hx.1.1 rfl ?_
      rw [hN.1]
      refine wa_icmp_ge (tgt := 57) dX10_difference_9 (by decide) (fun hT9 => ?_) (fun hF9 => absurd (nI_le (Nat.le_refl _) (by omega)) hF9)
      refine wa_iload_n dX10_difference_57 rfl ?_
      exact wa_iret dX10_difference_58 rfl (hq9)
    | succ r ih =>
      intro i hr hi
      have ih9 := ih (i + 1) (by omega) (by omega)
      refine wa_iload_n dX10_difference_4 rfl ?_
      refine wa_aload_n dX10_difference_5 rfl rfl ?_
      refine wa_getI (q := (RX10, TX10, 13)) (ci := 10) (k := 9) dX10_difference_6 rfl (by decide) wf_X10_64 hx.1.1 rfl ?_
      rw [hN.1]
      refine wa_icmp_ge (tgt := 57) dX10_difference_9 (by decide) (fun hT9 => absurd hT9 (nI_ge (by omega) (by omega))) (fun hF9 => ?_)
      refine wa_aload_n dX10_difference_12 rfl rfl ?_
      refine wa_iload_n dX10_difference_13 rfl ?_
      refine wa_callV (q := (RX10, TX10, 13)) (As := [.int (nI i)]) dX10_difference_14 lk_X10_241 rfl rfl hx.1.1 rfl rfl (Nat.le_of_ble_eq_true rfl) (Nat.le_of_eq (Nat.zero_add _)) (Nat.le_of_eq (Nat.zero_add _)) (k_X10_homeFee (nI i) T ta la N pp tk hN hx hT (fun z9 => absurd z9 (by rintro (z | z) <;> first | exact nI_pos (by omega) z | exact nI_ge (by omega) (by omega) z)) (fun i9 e9 h9 => ?_))
      obtain rfl : i = i9 := (nI_eq (by omega) (by omega)).mp e9
      refine wa_istore dX10_difference_17 (by decide) rfl rfl ?_
      refine wa_iload dX10_difference_19 rfl ?_
      refine wa_sipush (v := -10000) dX10_difference_21 (by decide) ?_
      refine wa_icmp_eq (tgt := 51) dX10_difference_24 (by decide) (fun hT24 => ?_) (fun hF24 => ?_)
      · refine wa_iinc (v := nI (i + 1)) dX10_difference_51 rfl (ni_i1 i) (by decide) rfl rfl ?_
        refine wa_goto (tgt := 4) dX10_difference_54 (by decide) ?_
        refine wa_set0 4 ?_
        first | (rw [← si_1 (g := fun i => if mm_I M (pp i) 0 = p ∧ kd_ M (pp i) (pa (pq i)) ≤ mm_I M x 10 ∧ ¬ hg_ M ta la (pp i) T = -10000 then mm_I M (pp i) 6 - hg_ M ta la (pp i) T else 0) (i := i) (if_pos ⟨hE, hF, hF24⟩)] at ih9; exact ih9) | (rw [← si_n (g := fun i => if mm_I M (pp i) 0 = p ∧ kd_ M (pp i) (pa (pq i)) ≤ mm_I M x 10 ∧ ¬ hg_ M ta la (pp i) T = -10000 then mm_I M (pp i) 6 - hg_ M ta la (pp i) T else 0) (i := i) (if_neg (fun z => by first | exact absurd hT24 z.2.2 | exact hE ⟨z.1, z.2.1⟩))] at ih9; exact ih9)
      · refine wa_aload_n dX10_difference_27 rfl rfl ?_
        refine wa_iload_n dX10_difference_28 rfl ?_
        refine wa_iload_n dX10_difference_29 rfl ?_
        refine wa_aload_n dX10_difference_30 rfl rfl ?_
        refine wa_getI (q := (RX10, TX10, 13)) (ci := 10) (k := 10) dX10_difference_31 rfl (by decide) wf_X10_67 hx.1.1 rfl ?_
        refine wa_callV (q := (RX10, TX10, 13)) (As := [.int p, .int (nI i), .int (mm_I M x 10)]) dX10_difference_34 lk_X10_235 rfl rfl hx.1.1 rfl rfl (Nat.le_of_ble_eq_true rfl) (Nat.le_of_eq (Nat.zero_add _)) (Nat.le_of_eq (Nat.zero_add _)) (k_X10_isKnownOf p i _ P T pa hx hP N pp tk hN pq hpq (by omega) (fun hE hF => ?_) (fun hE => ?_))
        · refine wa_if_eq (tgt := 51) dX10_difference_37 (by decide) (fun h9 => absurd h9 (by decide)) (fun _ => ?_)
          refine wa_iload_n dX10_difference_40 rfl ?_
          refine wa_aload_n dX10_difference_41 rfl rfl ?_
          refine wa_iload_n dX10_difference_42 rfl ?_
          refine wa_callV (q := (RX10, TX10, 13)) (As := [.int (nI i)]) dX10_difference_43 lk_X10_238 rfl rfl hx.1.1 rfl rfl (Nat.le_of_ble_eq_true rfl) (Nat.le_of_eq (Nat.zero_add _)) (Nat.le_of_eq (Nat.zero_add _)) (k_X10_chargedFor i N pp tk hN hx (by omega) ?_)
          refine wa_iload dX10_difference_46 rfl ?_
          refine wa_isub dX10_difference_48 ?_
          refine wa_iadd dX10_difference_49 ?_
          refine wa_istore_n dX10_difference_50 (by decide) rfl rfl ?_
          refine wa_iinc (v := nI (i + 1)) dX10_difference_51 rfl (ni_i1 i) (by decide) rfl rfl ?_
          refine wa_goto (tgt := 4) dX10_difference_54 (by decide) ?_
          refine wa_set0 4 ?_
          first | (rw [← si_1 (g := fun i => if mm_I M (pp i) 0 = p ∧ kd_ M (pp i) (pa (pq i)) ≤ mm_I M x 10 ∧ ¬ hg_ M ta la (pp i) T = -10000 then mm_I M (pp i) 6 - hg_ M ta la (pp i) T else 0) (i := i) (if_pos ⟨hE, hF, hF24⟩)] at ih9; exact ih9) | (rw [← si_n (g := fun i => if mm_I M (pp i) 0 = p ∧ kd_ M (pp i) (pa (pq i)) ≤ mm_I M x 10 ∧ ¬ hg_ M ta la (pp i) T = -10000 then mm_I M (pp i) 6 - hg_ M ta la (pp i) T else 0) (i := i) (if_neg (fun z => by first | exact absurd hT24 z.2.2 | exact hE ⟨z.1, z.2.1⟩))] at ih9; exact ih9)
        · refine wa_if_eq (tgt := 51) dX10_difference_37 (by decide) (fun _ => ?_) (fun h9 => absurd h9 (by decide))
          refine wa_iinc (v := nI (i + 1)) dX10_difference_51 rfl (ni_i1 i) (by decide) rfl rfl ?_
          refine wa_goto (tgt := 4) dX10_difference_54 (by decide) ?_
          refine wa_set0 4 ?_
          first | (rw [← si_1 (g := fun i => if mm_I M (pp i) 0 = p ∧ kd_ M (pp i) (pa (pq i)) ≤ mm_I M x 10 ∧ ¬ hg_ M ta la (pp i) T = -10000 then mm_I M (pp i) 6 - hg_ M ta la (pp i) T else 0) (i := i) (if_pos ⟨hE, hF, hF24⟩)] at ih9; exact ih9) | (rw [← si_n (g := fun i => if mm_I M (pp i) 0 = p ∧ kd_ M (pp i) (pa (pq i)) ≤ mm_I M x 10 ∧ ¬ hg_ M ta la (pp i) T = -10000 then mm_I M (pp i) 6 - hg_ M ta la (pp i) T else 0) (i := i) (if_neg (fun z => by first | exact absurd hT24 z.2.2 | exact hE ⟨z.1, z.2.1⟩))] at ih9; exact ih9)
  refine wa_iconst (v := 0) dX10_difference_0 (by decide) ?_
  refine wa_istore_n dX10_difference_1 (by decide) rfl rfl ?_
  refine wa_iconst (v := 0) dX10_difference_2 (by decide) ?_
  refine wa_istore_n dX10_difference_3 (by decide) rfl rfl ?_
  exact lp hQ N 0 (by omega) (by omega)

theorem k_X10_unlike {G : mm_G} {d : Nat} {Q : Option Value → mm_M → Prop} {M : mm_M} {x : Nat} (p : Int32) (P T : Nat) (pa : Nat → Nat) (hx : dsk_ M x) (hP : dP_ M x P T pa) (N : Nat) (pp tk : Nat → Nat) (hN : dN_ M x N pp tk) (pq : Nat → Nat) (hpq : ∀ i, i < N → mm_I M (pp i) 0 = nI (pq i) ∧ pq i < P) (ta la : Nat → Nat) (hT : dT_ M x T ta la) (h0 : p < 0 ∨ nI P ≤ p → Q (some (.int (-1))) M) (h1 : ∀ q : Nat, p = nI q → q < P → Q (some (.int (si_ (fun i => if mm_I M (pp i) 0 = p ∧ kd_ M (pp i) (pa (pq i)) ≤ mm_I M x 10 ∧ ¬ mm_I M (pp i) 6 = hg_ M ta la (pp i) T then 1 else 0) N))) M) : ma_ G jX10_unlike (d + 5) 0 0 [.ref x, .int p] M Q := by
  refine ma_of [some (.ref x), some (.int p), none, none] (by decide) rfl (Nat.le_of_ble_eq_true rfl) ?_
  have hN2 := hN.2.1
  have lp : Q (some (.int (si_ (fun i => if mm_I M (pp i) 0 = p ∧ kd_ M (pp i) (pa (pq i)) ≤ mm_I M x 10 ∧ ¬ mm_I M (pp i) 6 = hg_ M ta la (pp i) T then 1 else 0) N))) M → ∀ (r i : Nat), N - i = r → i ≤ N → wa_ 0 G jX10_unlike (d + 5) 0 0 Q 0 0 M 14 [some (.ref x), some (.int p), some (.int (si_ (fun i => if mm_I M (pp i) 0 = p ∧ kd_ M (pp i) (pa (pq i)) ≤ mm_I M x 10 ∧ ¬ mm_I M (pp i) 6 = hg_ M ta la (pp i) T then 1 else 0) i)), some (.int (nI i))] [] := by
    intro hq9 r
    induction r with
    | zero =>
      intro i hr hi
      have hiN : i = N := by omega
      subst hiN
      refine wa_iload_n dX10_unlike_14 rfl ?_
      refine wa_aload_n dX10_unlike_15 rfl rfl ?_
      refine wa_getI (q := (RX10, TX10, 13)) (ci := 10) (k := 9) dX10_unlike_16 rfl (by decide) wf_X10_64 hx.1.1 rfl ?_
      rw [hN.1]
      refine wa_icmp_ge (tgt := 57) dX10_unlike_19 (by decide) (fun hT19 => ?_) (fun hF19 => absurd (nI_le (Nat.le_refl _) (by omega)) hF19)
      refine wa_iload_n dX10_unlike_57 rfl ?_
      exact wa_iret dX10_unlike_58 rfl (hq9)
    | succ r ih =>
      intro i hr hi
      have ih9 := ih (i + 1) (by omega) (by omega)
      refine wa_iload_n dX10_unlike_14 rfl ?_
      refine wa_aload_n dX10_unlike_15 rfl rfl ?_
      refine wa_getI (q := (RX10, TX10, 13)) (ci := 10) (k := 9) dX10_unlike_16 rfl (by decide) wf_X10_64 hx.1.1 rfl ?_
      rw [hN.1]
      refine wa_icmp_ge (tgt := 57) dX10_unlike_19 (by decide) (fun hT19 => absurd hT19 (nI_ge (by omega) (by omega))) (fun hF19 => ?_)
      refine wa_aload_n dX10_unlike_22 rfl rfl ?_
      refine wa_iload_n dX10_unlike_23 rfl ?_
      refine wa_iload_n dX10_unlike_24 rfl ?_
      refine wa_aload_n dX10_unlike_25 rfl rfl ?_
      refine wa_getI (q := (RX10, TX10, 13)) (ci := 10) (k := 10) dX10_unlike_26 rfl (by decide) wf_X10_67 hx.1.1 rfl ?_
      refine wa_callV (q := (RX10, TX10, 13)) (As := [.int p, .int (nI i), .int (mm_I M x 10)]) dX10_unlike_29 lk_X10_235 rfl rfl hx.1.1 rfl rfl (Nat.le_of_ble_eq_true rfl) (Nat.le_of_eq (Nat.zero_add _)) (Nat.le_of_eq (Nat.zero_add _)) (k_X10_isKnownOf p i _ P T pa hx hP N pp tk hN pq hpq (by omega) (fun hE hF => ?_) (fun hE => ?_))
      · refine wa_if_eq (tgt := 51) dX10_unlike_32 (by decide) (fun h9 => absurd h9 (by decide)) (fun _ => ?_)
        refine wa_aload_n dX10_unlike_35 rfl rfl ?_
        refine wa_iload_n dX10_unlike_36 rfl ?_
        refine wa_callV (q := (RX10, TX10, 13)) (As := [.int (nI i)]) dX10_unlike_37 lk_X10_238 rfl rfl hx.1.1 rfl rfl (Nat.le_of_ble_eq_true rfl) (Nat.le_of_eq (Nat.zero_add _)) (Nat.le_of_eq (Nat.zero_add _)) (k_X10_chargedFor i N pp tk hN hx (by omega) ?_)
        refine wa_aload_n dX10_unlike_40 rfl rfl ?_
        refine wa_iload_n dX10_unlike_41 rfl ?_
        refine wa_callV (q := (RX10, TX10, 13)) (As := [.int (nI i)]) dX10_unlike_42 lk_X10_241 rfl rfl hx.1.1 rfl rfl (Nat.le_of_ble_eq_true rfl) (Nat.le_of_eq (Nat.zero_add _)) (Nat.le_of_eq (Nat.zero_add _)) (k_X10_homeFee (nI i) T ta la N pp tk hN hx hT (fun z9 => absurd z9 (by rintro (z | z) <;> first | exact nI_pos (by omega) z | exact nI_ge (by omega) (by omega) z)) (fun i9 e9 h9 => ?_))
        obtain rfl : i = i9 := (nI_eq (by omega) (by omega)).mp e9
        refine wa_icmp_eq (tgt := 51) dX10_unlike_45 (by decide) (fun hT45 => ?_) (fun hF45 => ?_)
        · refine wa_iinc (v := nI (i + 1)) dX10_unlike_51 rfl (ni_i1 i) (by decide) rfl rfl ?_
          refine wa_goto (tgt := 14) dX10_unlike_54 (by decide) ?_
          first | exact ih9 | (rw [← si_n (g := fun i => if mm_I M (pp i) 0 = p ∧ kd_ M (pp i) (pa (pq i)) ≤ mm_I M x 10 ∧ ¬ mm_I M (pp i) 6 = hg_ M ta la (pp i) T then 1 else 0) (i := i) (if_neg (fun z => by first | exact absurd hT45 z.2.2 | exact hE ⟨z.1, z.2.1⟩))] at ih9; exact ih9)
        · refine wa_iinc (v := si_ (fun i => if mm_I M (pp i) 0 = p ∧ kd_ M (pp i) (pa (pq i)) ≤ mm_I M x 10 ∧ ¬ mm_I M (pp i) 6 = hg_ M ta la (pp i) T then 1 else 0) (i + 1)) dX10_unlike_48 rfl (si_1 (if_pos ⟨hE, hF, hF45⟩)) (by decide) rfl rfl ?_
          refine wa_iinc (v := nI (i + 1)) dX10_unlike_51 rfl (ni_i1 i) (by decide) rfl rfl ?_
          refine wa_goto (tgt := 14) dX10_unlike_54 (by decide) ?_
          first | exact ih9 | (rw [← si_n (g := fun i => if mm_I M (pp i) 0 = p ∧ kd_ M (pp i) (pa (pq i)) ≤ mm_I M x 10 ∧ ¬ mm_I M (pp i) 6 = hg_ M ta la (pp i) T then 1 else 0) (i := i) (if_neg (fun z => by first | exact absurd hT45 z.2.2 | exact hE ⟨z.1, z.2.1⟩))] at ih9; exact ih9)
      · refine wa_if_eq (tgt := 51) dX10_unlike_32 (by decide) (fun _ => ?_) (fun h9 => absurd h9 (by decide))
        refine wa_iinc (v := nI (i + 1)) dX10_unlike_51 rfl (ni_i1 i) (by decide) rfl rfl ?_
        refine wa_goto (tgt := 14) dX10_unlike_54 (by decide) ?_
        first | exact ih9 | (rw [← si_n (g := fun i => if mm_I M (pp i) 0 = p ∧ kd_ M (pp i) (pa (pq i)) ≤ mm_I M x 10 ∧ ¬ mm_I M (pp i) 6 = hg_ M ta la (pp i) T then 1 else 0) (i := i) (if_neg (fun z => by first | exact absurd hT45 z.2.2 | exact hE ⟨z.1, z.2.1⟩))] at ih9; exact ih9)
  refine wa_aload_n dX10_unlike_0 rfl rfl ?_
  refine wa_iload_n dX10_unlike_1 rfl ?_
  refine wa_callV (q := (RX10, TX10, 13)) (As := [.int p]) dX10_unlike_2 lk_X10_119 rfl rfl hx.1.1 rfl rfl (Nat.le_of_ble_eq_true rfl) (Nat.le_of_eq (Nat.zero_add _)) (Nat.le_of_eq (Nat.zero_add _)) (k_X10_portAt p P T pa hx hP (fun q eq hq => ?_) (fun hAq => ?_))
  · have hpq9 := (hP.2.2.2 q hq).2.1
    refine wa_ifnonnullR (tgt := 10) dX10_unlike_5 (by decide) ?_
    refine wa_iconst (v := 0) dX10_unlike_10 (by decide) ?_
    refine wa_istore_n dX10_unlike_11 (by decide) rfl rfl ?_
    refine wa_iconst (v := 0) dX10_unlike_12 (by decide) ?_
    refine wa_istore_n dX10_unlike_13 (by decide) rfl rfl ?_
    exact lp (h1 q eq hq) N 0 (by omega) (by omega)
  · refine wa_ifnonnullN dX10_unlike_5 ?_
    refine wa_iconst (v := -1) dX10_unlike_8 (by decide) ?_
    exact wa_iret dX10_unlike_9 rfl (h0 hAq)
