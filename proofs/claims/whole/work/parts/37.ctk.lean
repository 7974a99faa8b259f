/-! the class cuts its text -/
def tpb_ (M : mm_M) (e n0 n : Nat) (b : Nat → Int32) : Prop := tap_ M e ∧ mm_I M e 1 = nI n0 ∧ n0 ≤ 300 ∧ n ≤ n0 ∧ (∀ k, k < n → b k = mm_I M (e + 1) k ∧ ∃ c, c < 256 ∧ b k = nI c) ∧ ∀ k, n ≤ k → b k = -1
theorem kb_at {G : mm_G} {d : Nat} {Q : Option Value → mm_M → Prop} {M : mm_M} {e n0 n : Nat} {b : Nat → Int32} (k : Nat) (hb : tpb_ M e n0 n b) (hk : k < n) (hQ : Q (some (.int (b k))) M) : ma_ G jX5_at d 0 0 [.ref e, .int (nI k)] M Q := by
  have h1 := hb.2.2.1
  have h2 := hb.2.2.2.1
  refine k_X5_at k n0 hb.1 hb.2.1 h1 (by omega) ?_
  rw [show ta_ M e n0 k = b k from by unfold ta_; rw [if_pos (by omega)]; exact ((hb.2.2.2.2.1 k hk).1).symm]
  exact hQ

theorem k_X9_isLetter {G : mm_G} {d : Nat} {Q : Option Value → mm_M → Prop} {M : mm_M} (v : Int32) (h1 : lt_ v → Q (some (.int 1)) M) (h0 : ¬ lt_ v → Q (some (.int 0)) M) : ma_ G jX9_isLetter d 0 0 [.int v] M Q := by
  refine ma_of [some (.int v)] (by decide) rfl (Nat.le_of_ble_eq_true rfl) ?_
  refine wa_iload_n dX9_isLetter_0 rfl ?_
  refine wa_bipush (v := 97) dX9_isLetter_1 (by decide) ?_
  refine wa_icmp_lt (tgt := 16) dX9_isLetter_3 (by decide) (fun hT3 => ?_) (fun hF3 => ?_)
  · refine wa_iconst (v := 0) dX9_isLetter_16 (by decide) ?_
    exact wa_zret dX9_isLetter_17 rfl rfl (h0 (fun q => by first | exact absurd q.1 (Int32.not_le.mpr (by assumption)) | exact absurd q.2 (Int32.not_le.mpr (by assumption))))
  · refine wa_iload_n dX9_isLetter_6 rfl ?_
    refine wa_bipush (v := 122) dX9_isLetter_7 (by decide) ?_
    refine wa_icmp_gt (tgt := 16) dX9_isLetter_9 (by decide) (fun hT9 => ?_) (fun hF9 => ?_)
    · refine wa_iconst (v := 0) dX9_isLetter_16 (by decide) ?_
      exact wa_zret dX9_isLetter_17 rfl rfl (h0 (fun q => by first | exact absurd q.1 (Int32.not_le.mpr (by assumption)) | exact absurd q.2 (Int32.not_le.mpr (by assumption))))
    · refine wa_iconst (v := 1) dX9_isLetter_12 (by decide) ?_
      refine wa_goto (tgt := 17) dX9_isLetter_13 (by decide) ?_
      exact wa_zret dX9_isLetter_17 rfl rfl (h1 ⟨Int32.not_lt.mp (by assumption), Int32.not_lt.mp (by assumption)⟩)

theorem k_X9_isDigit {G : mm_G} {d : Nat} {Q : Option Value → mm_M → Prop} {M : mm_M} (v : Int32) (h1 : dg_ v → Q (some (.int 1)) M) (h0 : ¬ dg_ v → Q (some (.int 0)) M) : ma_ G jX9_isDigit d 0 0 [.int v] M Q := by
  refine ma_of [some (.int v)] (by decide) rfl (Nat.le_of_ble_eq_true rfl) ?_
  refine wa_iload_n dX9_isDigit_0 rfl ?_
  refine wa_bipush (v := 48) dX9_isDigit_1 (by decide) ?_
  refine wa_icmp_lt (tgt := 16) dX9_isDigit_3 (by decide) (fun hT3 => ?_) (fun hF3 => ?_)
  · refine wa_iconst (v := 0) dX9_isDigit_16 (by decide) ?_
    exact wa_zret dX9_isDigit_17 rfl rfl (h0 (fun q => by first | exact absurd q.1 (Int32.not_le.mpr (by assumption)) | exact absurd q.2 (Int32.not_le.mpr (by assumption))))
  · refine wa_iload_n dX9_isDigit_6 rfl ?_
    refine wa_bipush (v := 57) dX9_isDigit_7 (by decide) ?_
    refine wa_icmp_gt (tgt := 16) dX9_isDigit_9 (by decide) (fun hT9 => ?_) (fun hF9 => ?_)
    · refine wa_iconst (v := 0) dX9_isDigit_16 (by decide) ?_
      exact wa_zret dX9_isDigit_17 rfl rfl (h0 (fun q => by first | exact absurd q.1 (Int32.not_le.mpr (by assumption)) | exact absurd q.2 (Int32.not_le.mpr (by assumption))))
    · refine wa_iconst (v := 1) dX9_isDigit_12 (by decide) ?_
      refine wa_goto (tgt := 17) dX9_isDigit_13 (by decide) ?_
      exact wa_zret dX9_isDigit_17 rfl rfl (h1 ⟨Int32.not_lt.mp (by assumption), Int32.not_lt.mp (by assumption)⟩)

theorem k_X9_isWord {G : mm_G} {d : Nat} {Q : Option Value → mm_M → Prop} {M : mm_M} {e n0 n : Nat} {b : Nat → Int32} (q s k f : Nat) (hcs : G.2.2.2.1 3 = .int 1) (hsf : G.2.2.2.1 6 = va_rn f) (hk : k < 9) (hb : tpb_ M e n0 n b) (hqs : q ≤ s) (hsn : s ≤ n) (h1 : wd_ b q s k → Q (some (.int 1)) M) (h0 : ¬ wd_ b q s k → Q (some (.int 0)) M) : ma_ G jX9_isWord (d + 4) 0 0 [.ref e, .int (nI q), .int (nI s), .ref (G.2.2.2.2.1 k)] M Q := by
  refine ma_of [some (.ref e), some (.int (nI q)), some (.int (nI s)), some (.ref (G.2.2.2.2.1 k)), none] (by decide) rfl (Nat.le_of_ble_eq_true rfl) ?_
  have h7 := mm_ln_le k hk
  have hn3 : n ≤ 300 := Nat.le_trans hb.2.2.2.1 hb.2.2.1
  have lp : s - q = mm_ln k → ∀ (r i : Nat), mm_ln k - i = r → i ≤ mm_ln k → (∀ j, j < i → b (q + j) = mm_ch k j) → wa_ 0 G jX9_isWord (d + 4) 0 0 Q 0 0 M 15 [some (.ref e), some (.int (nI q)), some (.int (nI s)), some (.ref (G.2.2.2.2.1 k)), some (.int (nI i))] [] := by
    intro hlen r
    induction r with
    | zero =>
      intro i hr hi hall
      obtain rfl : i = mm_ln k := by omega
      refine wa_iload dX9_isWord_15 rfl ?_
      refine wa_aload_n dX9_isWord_17 rfl rfl ?_
      refine wa_callVS (k := k) (As := []) dX9_isWord_18 lk_X9_88 rfl rfl hk rfl (Nat.le_of_ble_eq_true rfl) (Nat.le_of_eq (Nat.zero_add _)) (Nat.le_of_eq (Nat.zero_add _)) (k_len k hcs hk ?_)
      refine wa_icmp_ge (tgt := 49) dX9_isWord_21 (by decide) (fun hT21 => ?_) (fun hF21 => absurd hF21 (fun h => h (Int32.le_refl _)))
      refine wa_iconst (v := 1) dX9_isWord_49 (by decide) ?_
      exact wa_zret dX9_isWord_50 rfl rfl (h1 ⟨hlen, hall⟩)
    | succ r ih =>
      intro i hr hi hall
      refine wa_iload dX9_isWord_15 rfl ?_
      refine wa_aload_n dX9_isWord_17 rfl rfl ?_
      refine wa_callVS (k := k) (As := []) dX9_isWord_18 lk_X9_88 rfl rfl hk rfl (Nat.le_of_ble_eq_true rfl) (Nat.le_of_eq (Nat.zero_add _)) (Nat.le_of_eq (Nat.zero_add _)) (k_len k hcs hk ?_)
      refine wa_icmp_ge (tgt := 49) dX9_isWord_21 (by decide) (fun hT21 => absurd hT21 (fun h => absurd ((nI_leI (by omega) (by omega)).mp h) (by omega))) (fun hF21 => ?_)
      refine wa_aload_n dX9_isWord_24 rfl rfl ?_
      refine wa_iload_n dX9_isWord_25 rfl ?_
      refine wa_iload dX9_isWord_26 rfl ?_
      refine wa_iadd dX9_isWord_28 ?_
      rw [nI_add]
      refine wa_callV (q := (RX5, TX5, 2)) (As := [.int (nI (q + i))]) dX9_isWord_29 lk_X9_39 rfl rfl hb.1.1 rfl rfl (Nat.le_of_ble_eq_true rfl) (Nat.le_of_eq (Nat.zero_add _)) (Nat.le_of_eq (Nat.zero_add _)) (kb_at (q + i) hb (by omega) ?_)
      refine wa_aload_n dX9_isWord_32 rfl rfl ?_
      refine wa_iload dX9_isWord_33 rfl ?_
      refine wa_callVS (k := k) (As := [.int (nI i)]) dX9_isWord_35 lk_X9_92 rfl rfl hk rfl (Nat.le_of_ble_eq_true rfl) (Nat.le_of_eq (Nat.zero_add _)) (Nat.le_of_eq (Nat.zero_add _)) (k_chr k i f hcs hk hsf (by omega) ?_)
      refine wa_icmp_eq (tgt := 43) dX9_isWord_38 (by decide) (fun hT38 => ?_) (fun hF38 => ?_)
      · refine wa_iinc (v := nI (i + 1)) dX9_isWord_43 rfl (ni_i1 i) (by decide) rfl rfl ?_
        refine wa_goto (tgt := 15) dX9_isWord_46 (by decide) ?_
        refine ih (i + 1) (by omega) (by omega) (fun j hj => ?_)
        rcases Nat.lt_succ_iff_lt_or_eq.mp hj with h | h
        · exact hall j h
        · rw [h]; exact hT38
      · refine wa_iconst (v := 0) dX9_isWord_41 (by decide) ?_
        exact wa_zret dX9_isWord_42 rfl rfl (h0 (fun w => hF38 (w.2 i (by omega))))
  refine wa_iload_n dX9_isWord_0 rfl ?_
  refine wa_iload_n dX9_isWord_1 rfl ?_
  refine wa_isub dX9_isWord_2 ?_
  rw [pk_sub hqs]
  refine wa_aload_n dX9_isWord_3 rfl rfl ?_
  refine wa_callVS (k := k) (As := []) dX9_isWord_4 lk_X9_88 rfl rfl hk rfl (Nat.le_of_ble_eq_true rfl) (Nat.le_of_eq (Nat.zero_add _)) (Nat.le_of_eq (Nat.zero_add _)) (k_len k hcs hk ?_)
  refine wa_icmp_eq (tgt := 12) dX9_isWord_7 (by decide) (fun hT7 => ?_) (fun hF7 => ?_)
  · refine wa_iconst (v := 0) dX9_isWord_12 (by decide) ?_
    refine wa_istore dX9_isWord_13 (by decide) rfl rfl ?_
    exact lp ((nI_eq (by omega) (by omega)).mp hT7) (mm_ln k) 0 (by omega) (by omega) (fun j hj => absurd hj (by omega))
  · refine wa_iconst (v := 0) dX9_isWord_10 (by decide) ?_
    exact wa_zret dX9_isWord_11 rfl rfl (h0 (fun w => hF7 (by rw [w.1])))

theorem k_X9_wordKind {G : mm_G} {d : Nat} {Q : Option Value → mm_M → Prop} {M : mm_M} {e n0 n : Nat} {b : Nat → Int32} (q s f : Nat) (hcs : G.2.2.2.1 3 = .int 1) (hsf : G.2.2.2.1 6 = va_rn f) (hb : tpb_ M e n0 n b) (hqs : q ≤ s) (hsn : s ≤ n) (h1 : ∀ j : Nat, j < 8 → wd_ b q s j → Q (some (.int (nI (4 + j)))) M) (h0 : (∀ j, j < 8 → ¬ wd_ b q s j) → Q (some (.int 3)) M) : ma_ G jX9_wordKind (d + 5) 0 0 [.ref e, .int (nI q), .int (nI s)] M Q := by
  refine ma_of [some (.ref e), some (.int (nI q)), some (.int (nI s))] (by decide) rfl (Nat.le_of_ble_eq_true rfl) ?_
  refine wa_aload_n dX9_wordKind_0 rfl rfl ?_
  refine wa_iload_n dX9_wordKind_1 rfl ?_
  refine wa_iload_n dX9_wordKind_2 rfl ?_
  refine wa_ldcS (k := 0) (tx := "fee") dX9_wordKind_3 (by decide) ?_
  refine wa_callS (As := [.ref e, .int (nI q), .int (nI s), .ref (G.2.2.2.2.1 0)]) dX9_wordKind_5 lk_X9_70 rfl rfl (Nat.le_of_ble_eq_true rfl) (Nat.le_of_eq (Nat.zero_add _)) (Nat.le_of_eq (Nat.zero_add _)) (k_X9_isWord q s 0 f hcs hsf (by decide) hb hqs hsn (fun hw0 => ?_) (fun hw0 => ?_))
  · refine wa_if_eq (tgt := 13) dX9_wordKind_8 (by decide) (fun h9 => absurd h9 (by decide)) (fun _ => ?_)
    refine wa_iconst (v := 4) dX9_wordKind_11 (by decide) ?_
    exact wa_iret dX9_wordKind_12 rfl (h1 0 (by decide) hw0)
  · refine wa_if_eq (tgt := 13) dX9_wordKind_8 (by decide) (fun _ => ?_) (fun h9 => absurd h9 (by decide))
    refine wa_aload_n dX9_wordKind_13 rfl rfl ?_
    refine wa_iload_n dX9_wordKind_14 rfl ?_
    refine wa_iload_n dX9_wordKind_15 rfl ?_
    refine wa_ldcS (k := 1) (tx := "when") dX9_wordKind_16 (by decide) ?_
    refine wa_callS (As := [.ref e, .int (nI q), .int (nI s), .ref (G.2.2.2.2.1 1)]) dX9_wordKind_18 lk_X9_70 rfl rfl (Nat.le_of_ble_eq_true rfl) (Nat.le_of_eq (Nat.zero_add _)) (Nat.le_of_eq (Nat.zero_add _)) (k_X9_isWord q s 1 f hcs hsf (by decide) hb hqs hsn (fun hw1 => ?_) (fun hw1 => ?_))
    · refine wa_if_eq (tgt := 26) dX9_wordKind_21 (by decide) (fun h9 => absurd h9 (by decide)) (fun _ => ?_)
      refine wa_iconst (v := 5) dX9_wordKind_24 (by decide) ?_
      exact wa_iret dX9_wordKind_25 rfl (h1 1 (by decide) hw1)
    · refine wa_if_eq (tgt := 26) dX9_wordKind_21 (by decide) (fun _ => ?_) (fun h9 => absurd h9 (by decide))
      refine wa_aload_n dX9_wordKind_26 rfl rfl ?_
      refine wa_iload_n dX9_wordKind_27 rfl ?_
      refine wa_iload_n dX9_wordKind_28 rfl ?_
      refine wa_ldcS (k := 2) (tx := "and") dX9_wordKind_29 (by decide) ?_
      refine wa_callS (As := [.ref e, .int (nI q), .int (nI s), .ref (G.2.2.2.2.1 2)]) dX9_wordKind_31 lk_X9_70 rfl rfl (Nat.le_of_ble_eq_true rfl) (Nat.le_of_eq (Nat.zero_add _)) (Nat.le_of_eq (Nat.zero_add _)) (k_X9_isWord q s 2 f hcs hsf (by decide) hb hqs hsn (fun hw2 => ?_) (fun hw2 => ?_))
      · refine wa_if_eq (tgt := 40) dX9_wordKind_34 (by decide) (fun h9 => absurd h9 (by decide)) (fun _ => ?_)
        refine wa_bipush (v := 6) dX9_wordKind_37 (by decide) ?_
        exact wa_iret dX9_wordKind_39 rfl (h1 2 (by decide) hw2)
      · refine wa_if_eq (tgt := 40) dX9_wordKind_34 (by decide) (fun _ => ?_) (fun h9 => absurd h9 (by decide))
        refine wa_aload_n dX9_wordKind_40 rfl rfl ?_
        refine wa_iload_n dX9_wordKind_41 rfl ?_
        refine wa_iload_n dX9_wordKind_42 rfl ?_
        refine wa_ldcS (k := 3) (tx := "is") dX9_wordKind_43 (by decide) ?_
        refine wa_callS (As := [.ref e, .int (nI q), .int (nI s), .ref (G.2.2.2.2.1 3)]) dX9_wordKind_45 lk_X9_70 rfl rfl (Nat.le_of_ble_eq_true rfl) (Nat.le_of_eq (Nat.zero_add _)) (Nat.le_of_eq (Nat.zero_add _)) (k_X9_isWord q s 3 f hcs hsf (by decide) hb hqs hsn (fun hw3 => ?_) (fun hw3 => ?_))
        · refine wa_if_eq (tgt := 54) dX9_wordKind_48 (by decide) (fun h9 => absurd h9 (by decide)) (fun _ => ?_)
          refine wa_bipush (v := 7) dX9_wordKind_51 (by decide) ?_
          exact wa_iret dX9_wordKind_53 rfl (h1 3 (by decide) hw3)
        · refine wa_if_eq (tgt := 54) dX9_wordKind_48 (by decide) (fun _ => ?_) (fun h9 => absurd h9 (by decide))
          refine wa_aload_n dX9_wordKind_54 rfl rfl ?_
          refine wa_iload_n dX9_wordKind_55 rfl ?_
          refine wa_iload_n dX9_wordKind_56 rfl ?_
          refine wa_ldcS (k := 4) (tx := "value") dX9_wordKind_57 (by decide) ?_
          refine wa_callS (As := [.ref e, .int (nI q), .int (nI s), .ref (G.2.2.2.2.1 4)]) dX9_wordKind_59 lk_X9_70 rfl rfl (Nat.le_of_ble_eq_true rfl) (Nat.le_of_eq (Nat.zero_add _)) (Nat.le_of_eq (Nat.zero_add _)) (k_X9_isWord q s 4 f hcs hsf (by decide) hb hqs hsn (fun hw4 => ?_) (fun hw4 => ?_))
          · refine wa_if_eq (tgt := 68) dX9_wordKind_62 (by decide) (fun h9 => absurd h9 (by decide)) (fun _ => ?_)
            refine wa_bipush (v := 8) dX9_wordKind_65 (by decide) ?_
            exact wa_iret dX9_wordKind_67 rfl (h1 4 (by decide) hw4)
          · refine wa_if_eq (tgt := 68) dX9_wordKind_62 (by decide) (fun _ => ?_) (fun h9 => absurd h9 (by decide))
            refine wa_aload_n dX9_wordKind_68 rfl rfl ?_
            refine wa_iload_n dX9_wordKind_69 rfl ?_
            refine wa_iload_n dX9_wordKind_70 rfl ?_
            refine wa_ldcS (k := 5) (tx := "sheets") dX9_wordKind_71 (by decide) ?_
            refine wa_callS (As := [.ref e, .int (nI q), .int (nI s), .ref (G.2.2.2.2.1 5)]) dX9_wordKind_73 lk_X9_70 rfl rfl (Nat.le_of_ble_eq_true rfl) (Nat.le_of_eq (Nat.zero_add _)) (Nat.le_of_eq (Nat.zero_add _)) (k_X9_isWord q s 5 f hcs hsf (by decide) hb hqs hsn (fun hw5 => ?_) (fun hw5 => ?_))
            · refine wa_if_eq (tgt := 82) dX9_wordKind_76 (by decide) (fun h9 => absurd h9 (by decide)) (fun _ => ?_)
              refine wa_bipush (v := 9) dX9_wordKind_79 (by decide) ?_
              exact wa_iret dX9_wordKind_81 rfl (h1 5 (by decide) hw5)
            · refine wa_if_eq (tgt := 82) dX9_wordKind_76 (by decide) (fun _ => ?_) (fun h9 => absurd h9 (by decide))
              refine wa_aload_n dX9_wordKind_82 rfl rfl ?_
              refine wa_iload_n dX9_wordKind_83 rfl ?_
              refine wa_iload_n dX9_wordKind_84 rfl ?_
              refine wa_ldcS (k := 6) (tx := "port") dX9_wordKind_85 (by decide) ?_
              refine wa_callS (As := [.ref e, .int (nI q), .int (nI s), .ref (G.2.2.2.2.1 6)]) dX9_wordKind_87 lk_X9_70 rfl rfl (Nat.le_of_ble_eq_true rfl) (Nat.le_of_eq (Nat.zero_add _)) (Nat.le_of_eq (Nat.zero_add _)) (k_X9_isWord q s 6 f hcs hsf (by decide) hb hqs hsn (fun hw6 => ?_) (fun hw6 => ?_))
              · refine wa_if_eq (tgt := 96) dX9_wordKind_90 (by decide) (fun h9 => absurd h9 (by decide)) (fun _ => ?_)
                refine wa_bipush (v := 10) dX9_wordKind_93 (by decide) ?_
                exact wa_iret dX9_wordKind_95 rfl (h1 6 (by decide) hw6)
              · refine wa_if_eq (tgt := 96) dX9_wordKind_90 (by decide) (fun _ => ?_) (fun h9 => absurd h9 (by decide))
                refine wa_aload_n dX9_wordKind_96 rfl rfl ?_
                refine wa_iload_n dX9_wordKind_97 rfl ?_
                refine wa_iload_n dX9_wordKind_98 rfl ?_
                refine wa_ldcS (k := 7) (tx := "sealed") dX9_wordKind_99 (by decide) ?_
                refine wa_callS (As := [.ref e, .int (nI q), .int (nI s), .ref (G.2.2.2.2.1 7)]) dX9_wordKind_101 lk_X9_70 rfl rfl (Nat.le_of_ble_eq_true rfl) (Nat.le_of_eq (Nat.zero_add _)) (Nat.le_of_eq (Nat.zero_add _)) (k_X9_isWord q s 7 f hcs hsf (by decide) hb hqs hsn (fun hw7 => ?_) (fun hw7 => ?_))
                · refine wa_if_eq (tgt := 112) dX9_wordKind_104 (by decide) (fun h9 => absurd h9 (by decide)) (fun _ => ?_)
                  refine wa_bipush (v := 11) dX9_wordKind_107 (by decide) ?_
                  refine wa_goto (tgt := 113) dX9_wordKind_109 (by decide) ?_
                  exact wa_iret dX9_wordKind_113 rfl (h1 7 (by decide) hw7)
                · refine wa_if_eq (tgt := 112) dX9_wordKind_104 (by decide) (fun _ => ?_) (fun h9 => absurd h9 (by decide))
                  refine wa_iconst (v := 3) dX9_wordKind_112 (by decide) ?_
                  exact wa_iret dX9_wordKind_113 rfl (h0 (fun j hj => by rcases (by omega : j = 0 ∨ j = 1 ∨ j = 2 ∨ j = 3 ∨ j = 4 ∨ j = 5 ∨ j = 6 ∨ j = 7) with rfl | rfl | rfl | rfl | rfl | rfl | rfl | rfl <;> assumption))

/-- a token is put -/
def pt_ (M : mm_M) (t c : Nat) (k l v : Int32) : mm_M := mm_sI (mm_sI (mm_sI (mm_sI M (t + 1) c k) (t + 2) c l) (t + 3) c v) t 3 (nI (c + 1))

theorem k_X9_put {G : mm_G} {d : Nat} {Q : Option Value → mm_M → Prop} {M : mm_M} {t : Nat} (k : Int32) (l : Int32) (v : Int32) (c : Nat) (ht : tok_ M t) (hc : mm_I M t 3 = nI c) (hc3 : c ≤ 300) (hQ : Q none (pt_ M t c k l v)) : ma_ G jX9_put d 0 0 [.ref t, .int k, .int l, .int v] M Q := by
  refine ma_of [some (.ref t), some (.int k), some (.int l), some (.int v)] (by decide) rfl (Nat.le_of_ble_eq_true rfl) ?_
  refine wa_aload_n dX9_put_0 rfl rfl ?_
  refine wa_getI (q := (RX9, TX9, 4)) (ci := 9) (k := 3) dX9_put_1 rfl (by decide) wf_X9_21 ht.1 rfl ?_
  rw [hc]
  refine wa_if_lt (tgt := 83) dX9_put_4 (by decide) (fun hT4 => absurd hT4 (nI_pos (by omega))) (fun hF4 => ?_)
  refine wa_aload_n dX9_put_7 rfl rfl ?_
  refine wa_getI (q := (RX9, TX9, 4)) (ci := 9) (k := 3) dX9_put_8 rfl (by decide) wf_X9_21 ht.1 rfl ?_
  rw [hc]
  refine wa_aload_n dX9_put_11 rfl rfl ?_
  refine wa_getR (q := (RX9, TX9, 4)) (ci := 9) (k := 0) dX9_put_12 rfl (by decide) wf_X9_9 ht.1 rfl (tok_r0 ht) ?_
  refine wa_alen dX9_put_15 (tok_s0 ht) ?_
  refine wa_icmp_ge (tgt := 83) dX9_put_16 (by decide) (fun hT16 => absurd hT16 (nI_ge (b := 301) (by omega) (by decide))) (fun hF16 => ?_)
  refine wa_aload_n dX9_put_19 rfl rfl ?_
  refine wa_getI (q := (RX9, TX9, 4)) (ci := 9) (k := 3) dX9_put_20 rfl (by decide) wf_X9_21 ht.1 rfl ?_
  rw [hc]
  refine wa_aload_n dX9_put_23 rfl rfl ?_
  refine wa_getR (q := (RX9, TX9, 4)) (ci := 9) (k := 1) dX9_put_24 rfl (by decide) wf_X9_15 ht.1 rfl (tok_r1 ht) ?_
  refine wa_alen dX9_put_27 (tok_s1 ht) ?_
  refine wa_icmp_ge (tgt := 83) dX9_put_28 (by decide) (fun hT28 => absurd hT28 (nI_ge (b := 301) (by omega) (by decide))) (fun hF28 => ?_)
  refine wa_aload_n dX9_put_31 rfl rfl ?_
  refine wa_getI (q := (RX9, TX9, 4)) (ci := 9) (k := 3) dX9_put_32 rfl (by decide) wf_X9_21 ht.1 rfl ?_
  rw [hc]
  refine wa_aload_n dX9_put_35 rfl rfl ?_
  refine wa_getR (q := (RX9, TX9, 4)) (ci := 9) (k := 2) dX9_put_36 rfl (by decide) wf_X9_18 ht.1 rfl (tok_r2 ht) ?_
  refine wa_alen dX9_put_39 (tok_s2 ht) ?_
  refine wa_icmp_ge (tgt := 83) dX9_put_40 (by decide) (fun hT40 => absurd hT40 (nI_ge (b := 301) (by omega) (by decide))) (fun hF40 => ?_)
  refine wa_aload_n dX9_put_43 rfl rfl ?_
  refine wa_getR (q := (RX9, TX9, 4)) (ci := 9) (k := 0) dX9_put_44 rfl (by decide) wf_X9_9 ht.1 rfl (tok_r0 ht) ?_
  refine wa_aload_n dX9_put_47 rfl rfl ?_
  refine wa_getI (q := (RX9, TX9, 4)) (ci := 9) (k := 3) dX9_put_48 rfl (by decide) wf_X9_21 ht.1 rfl ?_
  rw [hc]
  refine wa_iload_n dX9_put_51 rfl ?_
  refine wa_iastN dX9_put_52 (tok_s0 ht) (by omega) (by decide) ?_
  refine wa_aload_n dX9_put_53 rfl rfl ?_
  refine wa_getR (q := (RX9, TX9, 4)) (ci := 9) (k := 1) dX9_put_54 rfl (by decide) wf_X9_15 ht.1 rfl (tok_r1 ht) ?_
  refine wa_aload_n dX9_put_57 rfl rfl ?_
  refine wa_getI (q := (RX9, TX9, 4)) (ci := 9) (k := 3) dX9_put_58 rfl (by decide) wf_X9_21 ht.1 rfl ?_
  rw [mI_na _ _ _ _ _ _ (by omega), hc]
  refine wa_iload_n dX9_put_61 rfl ?_
  refine wa_iastN dX9_put_62 (tok_s1 ht) (by omega) (by decide) ?_
  refine wa_aload_n dX9_put_63 rfl rfl ?_
  refine wa_getR (q := (RX9, TX9, 4)) (ci := 9) (k := 2) dX9_put_64 rfl (by decide) wf_X9_18 ht.1 rfl (tok_r2 ht) ?_
  refine wa_aload_n dX9_put_67 rfl rfl ?_
  refine wa_getI (q := (RX9, TX9, 4)) (ci := 9) (k := 3) dX9_put_68 rfl (by decide) wf_X9_21 ht.1 rfl ?_
  rw [mI_na _ _ _ _ _ _ (by omega), mI_na _ _ _ _ _ _ (by omega), hc]
  refine wa_iload_n dX9_put_71 rfl ?_
  refine wa_iastN dX9_put_72 (tok_s2 ht) (by omega) (by decide) ?_
  refine wa_aload_n dX9_put_73 rfl rfl ?_
  refine wa_dup dX9_put_74 rfl ?_
  refine wa_getI (q := (RX9, TX9, 4)) (ci := 9) (k := 3) dX9_put_75 rfl (by decide) wf_X9_21 ht.1 rfl ?_
  rw [mI_na _ _ _ _ _ _ (by omega), mI_na _ _ _ _ _ _ (by omega), mI_na _ _ _ _ _ _ (by omega), hc]
  refine wa_iconst (v := 1) dX9_put_78 (by decide) ?_
  refine wa_iadd dX9_put_79 ?_
  rw [show nI c + 1 = nI (c + 1) from ni_i1 c]
  refine wa_put (q := (RX9, TX9, 4)) (ci := 9) (k := 3) dX9_put_80 rfl (by decide) wf_X9_21 rfl ht.1 rfl ?_
  exact wa_vret dX9_put_83 rfl (hQ)

/-- the token at the place q, and what stands behind it -/
def tq_ (b : Nat → Int32) (n q : Nat) (k v : Int32) (p' : Nat) : Prop :=
   (q < n ∧ ∃ e, q < e ∧ e ≤ n ∧ (∀ j, q ≤ j → j < e → lt_ (b j)) ∧ ¬ lt_ (b e) ∧ p' = e ∧ ((8 < e - q ∧ k = 1) ∨ (e - q ≤ 8 ∧ ∃ j, j < 8 ∧ wd_ b q e j ∧ k = nI (4 + j)) ∨ (e - q ≤ 8 ∧ (∀ j, j < 8 → ¬ wd_ b q e j) ∧ k = 3))) ∨
   (q < n ∧ ¬ lt_ (b q) ∧ ∃ e, q < e ∧ e ≤ n ∧ (∀ j, q ≤ j → j < e → dg_ (b j)) ∧ ¬ dg_ (b e) ∧ p' = e ∧ ((3 < e - q ∧ k = 1) ∨ (e - q ≤ 3 ∧ k = 2 ∧ v = nv_ b q (e - q)))) ∨
   (q < n ∧ ¬ lt_ (b q) ∧ ¬ dg_ (b q) ∧ sg_ (b q) ∧ k = b q ∧ p' = q + 1) ∨
   (q < n ∧ ¬ lt_ (b q) ∧ ¬ dg_ (b q) ∧ ¬ sg_ (b q) ∧ k = 1)
theorem tq_tz {b : Nat → Int32} {n p q : Nat} {k v : Int32} {p' : Nat} (h : tq_ b n q k v p') (hp : p ≤ q) (hq : q ≤ n) (hs : ∀ j, p ≤ j → j < q → b j = 32) (hn : ¬ b q = 32) : tz_ b n p k (nI q) v p' := ⟨q, hp, hq, hs, hn, rfl, Or.inr h⟩
theorem lt_m1 : ¬ lt_ (-1) := by unfold lt_; decide
theorem dg_m1 : ¬ dg_ (-1) := by unfold dg_; decide
theorem lt_32 {v : Int32} (h : lt_ v) : ¬ v = 32 := fun e => absurd h (by rw [e]; unfold lt_; decide)
theorem dg_32 {v : Int32} (h : dg_ v) : ¬ v = 32 := fun e => absurd h (by rw [e]; unfold dg_; decide)
theorem sg_ix {c : Nat} (hc : c < 256) : sg_ (nI c) ↔ ∃ j, j < 7 ∧ mm_ch 8 j = nI c := by
  have h : ∀ c, c < 256 → (sg_ (nI c) ↔ ∃ j, j < 7 ∧ mm_ch 8 j = nI c) := by unfold sg_; decide +kernel
  exact h c hc
theorem i2c_n : ∀ c, c < 256 → ((nI c).toUInt32 % 65536).toInt32 = nI c := by decide +kernel

theorem k_X9_cutWord {G : mm_G} {d : Nat} {Q : Option Value → mm_M → Prop} {M : mm_M} {t e n0 n : Nat} {b : Nat → Int32} (q c f : Nat) (hcs : G.2.2.2.1 3 = .int 1) (hsf : G.2.2.2.1 6 = va_rn f) (ht : tok_ M t) (hb : tpb_ M e n0 n b) (hc : mm_I M t 3 = nI c) (hc3 : c ≤ 300) (hqn : q < n) (hlq : lt_ (b q)) (hQ : ∀ (s : Nat) (k v : Int32), q < s → s ≤ n → tq_ b n q k v s → Q (some (.int (nI s))) (pt_ M t c k (nI q) v)) : ma_ G jX9_cutWord (d + 6) 0 0 [.ref t, .ref e, .int (nI q), .int (nI n)] M Q := by
  refine ma_of [some (.ref t), some (.ref e), some (.int (nI q)), some (.int (nI n)), none] (by decide) rfl (Nat.le_of_ble_eq_true rfl) ?_
  have hn3 : n ≤ 300 := Nat.le_trans hb.2.2.2.1 hb.2.2.1
  have s48 : ∀ (s : Nat) (k : Int32), q < s → s ≤ n → tq_ b n q k 0 s → wa_ 0 G jX9_cutWord (d + 6) 0 0 Q 0 0 M 48 [some (.ref t), some (.ref e), some (.int (nI q)), some (.int (nI n)), some (.int (nI s))] [.int k, .ref t] := by
    intro s k hs hsn hk
    refine wa_iload_n dX9_cutWord_48 rfl ?_
    refine wa_iconst (v := 0) dX9_cutWord_49 (by decide) ?_
    refine wa_callV (q := (RX9, TX9, 4)) (As := [.int k, .int (nI q), .int 0]) dX9_cutWord_50 lk_X9_35 rfl rfl ht.1 rfl rfl (Nat.le_of_ble_eq_true rfl) (Nat.le_of_eq (Nat.zero_add _)) (Nat.le_of_eq (Nat.zero_add _)) (k_X9_put k (nI q) 0 c ht hc hc3 ?_)
    refine wa_iload dX9_cutWord_53 rfl ?_
    exact wa_iret dX9_cutWord_55 rfl (hQ s k 0 hs hsn hk)
  have s27 : ∀ s : Nat, q < s → s ≤ n → (∀ j, q ≤ j → j < s → lt_ (b j)) → ¬ lt_ (b s) → wa_ 0 G jX9_cutWord (d + 6) 0 0 Q 0 0 M 27 [some (.ref t), some (.ref e), some (.int (nI q)), some (.int (nI n)), some (.int (nI s))] [] := by
    intro s hs hsn hall hend
    refine wa_aload_n dX9_cutWord_27 rfl rfl ?_
    refine wa_iload dX9_cutWord_28 rfl ?_
    refine wa_iload_n dX9_cutWord_30 rfl ?_
    refine wa_isub dX9_cutWord_31 ?_
    rw [pk_sub (Nat.le_of_lt hs)]
    refine wa_bipush (v := 8) dX9_cutWord_32 (by decide) ?_
    refine wa_icmp_le (tgt := 41) dX9_cutWord_34 (by decide) (fun hT34 => ?_) (fun hF34 => ?_)
    · refine wa_aload_n dX9_cutWord_41 rfl rfl ?_
      refine wa_iload_n dX9_cutWord_42 rfl ?_
      refine wa_iload dX9_cutWord_43 rfl ?_
      refine wa_callS (As := [.ref e, .int (nI q), .int (nI s)]) dX9_cutWord_45 lk_X9_65 rfl rfl (Nat.le_of_ble_eq_true rfl) (Nat.le_of_eq (Nat.zero_add _)) (Nat.le_of_eq (Nat.zero_add _)) (k_X9_wordKind q s f hcs hsf hb (Nat.le_of_lt hs) hsn (fun j hj hw => ?_) (fun hw => ?_))
      · exact s48 s _ hs hsn (Or.inl ⟨hqn, s, hs, hsn, hall, hend, rfl, Or.inr (Or.inl ⟨ni_le (b := 8) hT34 (by omega) (by decide), j, hj, hw, rfl⟩)⟩)
      · exact s48 s _ hs hsn (Or.inl ⟨hqn, s, hs, hsn, hall, hend, rfl, Or.inr (Or.inr ⟨ni_le (b := 8) hT34 (by omega) (by decide), hw, rfl⟩)⟩)
    · refine wa_iconst (v := 1) dX9_cutWord_37 (by decide) ?_
      refine wa_goto (tgt := 48) dX9_cutWord_38 (by decide) ?_
      exact s48 s _ hs hsn (Or.inl ⟨hqn, s, hs, hsn, hall, hend, rfl, Or.inl ⟨ni_nle (b := 8) hF34 (by omega) (by decide), rfl⟩⟩)
  have lp : ∀ (r s : Nat), n - s = r → q ≤ s → s ≤ n → (∀ j, q ≤ j → j < s → lt_ (b j)) → wa_ 0 G jX9_cutWord (d + 6) 0 0 Q 0 0 M 3 [some (.ref t), some (.ref e), some (.int (nI q)), some (.int (nI n)), some (.int (nI s))] [] := by
    intro r
    induction r using Nat.strongRecOn with
    | ind r ih =>
      intro s hr hqs hsn hall
      have hlt : ¬ lt_ (b s) → q < s := by
        intro h
        rcases Nat.lt_or_ge q s with h2 | h2
        · exact h2
        · exact absurd hlq (by rw [show q = s from by omega]; exact h)
      refine wa_iload dX9_cutWord_3 rfl ?_
      refine wa_iload_n dX9_cutWord_5 rfl ?_
      refine wa_icmp_ge (tgt := 27) dX9_cutWord_6 (by decide) (fun hT6 => ?_) (fun hF6 => ?_)
      · first
          | exact s27 s (hlt hL) hsn hall hL
          | (have hsn2 : s = n := by
               have := ni_le hT6 (by omega) (by omega)
               omega
             have hL : ¬ lt_ (b s) := by rw [hb.2.2.2.2.2 s (by omega)]; exact lt_m1
             exact s27 s (hlt hL) hsn hall hL)
      · have hs2 : s < n := ni_nle hF6 (by omega) (by omega)
        refine wa_aload_n dX9_cutWord_9 rfl rfl ?_
        refine wa_iload dX9_cutWord_10 rfl ?_
        refine wa_callV (q := (RX5, TX5, 2)) (As := [.int (nI s)]) dX9_cutWord_12 lk_X9_39 rfl rfl hb.1.1 rfl rfl (Nat.le_of_ble_eq_true rfl) (Nat.le_of_eq (Nat.zero_add _)) (Nat.le_of_eq (Nat.zero_add _)) (kb_at s hb hs2 ?_)
        refine wa_callS (As := [.int (b s)]) dX9_cutWord_15 lk_X9_45 rfl rfl (Nat.le_of_ble_eq_true rfl) (Nat.le_of_eq (Nat.zero_add _)) (Nat.le_of_eq (Nat.zero_add _)) (k_X9_isLetter (b s) (fun hL => ?_) (fun hL => ?_))
        · refine wa_if_eq (tgt := 27) dX9_cutWord_18 (by decide) (fun h9 => absurd h9 (by decide)) (fun _ => ?_)
          refine wa_iinc (v := nI (s + 1)) dX9_cutWord_21 rfl (ni_i1 s) (by decide) rfl rfl ?_
          refine wa_goto (tgt := 3) dX9_cutWord_24 (by decide) ?_
          refine ih (n - (s + 1)) (by omega) (s + 1) rfl (by omega) (by omega) (fun j h1 h2 => ?_)
          rcases Nat.lt_succ_iff_lt_or_eq.mp h2 with h | h
          · exact hall j h1 h
          · rw [h]; exact hL
        · refine wa_if_eq (tgt := 27) dX9_cutWord_18 (by decide) (fun _ => ?_) (fun h9 => absurd h9 (by decide))
          first
            | exact s27 s (hlt hL) hsn hall hL
            | (have hsn2 : s = n := by
                 have := ni_le hT6 (by omega) (by omega)
                 omega
               have hL : ¬ lt_ (b s) := by rw [hb.2.2.2.2.2 s (by omega)]; exact lt_m1
               exact s27 s (hlt hL) hsn hall hL)
  refine wa_iload_n dX9_cutWord_0 rfl ?_
  refine wa_istore dX9_cutWord_1 (by decide) rfl rfl ?_
  exact lp (n - q) q rfl (Nat.le_refl _) (Nat.le_of_lt hqn) (fun j h1 h2 => absurd h2 (by omega))

theorem k_X9_cutNumber {G : mm_G} {d : Nat} {Q : Option Value → mm_M → Prop} {M : mm_M} {t e n0 n : Nat} {b : Nat → Int32} (q c : Nat) (ht : tok_ M t) (hb : tpb_ M e n0 n b) (hc : mm_I M t 3 = nI c) (hc3 : c ≤ 300) (hqn : q < n) (hlq : ¬ lt_ (b q)) (hdq : dg_ (b q)) (hQ : ∀ (s : Nat) (k v : Int32), q < s → s ≤ n → tq_ b n q k v s → Q (some (.int (nI s))) (pt_ M t c k (nI q) v)) : ma_ G jX9_cutNumber (d + 1) 0 0 [.ref t, .ref e, .int (nI q), .int (nI n)] M Q := by
  refine ma_of [some (.ref t), some (.ref e), some (.int (nI q)), some (.int (nI n)), none, none] (by decide) rfl (Nat.le_of_ble_eq_true rfl) ?_
  have hn3 : n ≤ 300 := Nat.le_trans hb.2.2.2.1 hb.2.2.1
  have s61 : ∀ (s : Nat) (k : Int32), q < s → s ≤ n → tq_ b n q k (nv_ b q (s - q)) s → wa_ 0 G jX9_cutNumber (d + 1) 0 0 Q 0 0 M 61 [some (.ref t), some (.ref e), some (.int (nI q)), some (.int (nI n)), some (.int (nI s)), some (.int (nv_ b q (s - q)))] [.int k, .ref t] := by
    intro s k hs hsn hk
    refine wa_iload_n dX9_cutNumber_61 rfl ?_
    refine wa_iload dX9_cutNumber_62 rfl ?_
    refine wa_callV (q := (RX9, TX9, 4)) (As := [.int k, .int (nI q), .int (nv_ b q (s - q))]) dX9_cutNumber_64 lk_X9_35 rfl rfl ht.1 rfl rfl (Nat.le_of_ble_eq_true rfl) (Nat.le_of_eq (Nat.zero_add _)) (Nat.le_of_eq (Nat.zero_add _)) (k_X9_put k (nI q) (nv_ b q (s - q)) c ht hc hc3 ?_)
    refine wa_iload dX9_cutNumber_67 rfl ?_
    exact wa_iret dX9_cutNumber_69 rfl (hQ s k _ hs hsn hk)
  have s47 : ∀ s : Nat, q < s → s ≤ n → (∀ j, q ≤ j → j < s → dg_ (b j)) → ¬ dg_ (b s) → wa_ 0 G jX9_cutNumber (d + 1) 0 0 Q 0 0 M 47 [some (.ref t), some (.ref e), some (.int (nI q)), some (.int (nI n)), some (.int (nI s)), some (.int (nv_ b q (s - q)))] [] := by
    intro s hs hsn hall hend
    refine wa_aload_n dX9_cutNumber_47 rfl rfl ?_
    refine wa_iload dX9_cutNumber_48 rfl ?_
    refine wa_iload_n dX9_cutNumber_50 rfl ?_
    refine wa_isub dX9_cutNumber_51 ?_
    rw [pk_sub (Nat.le_of_lt hs)]
    refine wa_iconst (v := 3) dX9_cutNumber_52 (by decide) ?_
    refine wa_icmp_le (tgt := 60) dX9_cutNumber_53 (by decide) (fun hT53 => ?_) (fun hF53 => ?_)
    · refine wa_iconst (v := 2) dX9_cutNumber_60 (by decide) ?_
      exact s61 s _ hs hsn (Or.inr (Or.inl ⟨hqn, hlq, s, hs, hsn, hall, hend, rfl, Or.inr ⟨ni_le (b := 3) hT53 (by omega) (by decide), rfl, rfl⟩⟩))
    · refine wa_iconst (v := 1) dX9_cutNumber_56 (by decide) ?_
      refine wa_goto (tgt := 61) dX9_cutNumber_57 (by decide) ?_
      exact s61 s _ hs hsn (Or.inr (Or.inl ⟨hqn, hlq, s, hs, hsn, hall, hend, rfl, Or.inl ⟨ni_nle (b := 3) hF53 (by omega) (by decide), rfl⟩⟩))
  have lp : ∀ (r s : Nat), n - s = r → q ≤ s → s ≤ n → (∀ j, q ≤ j → j < s → dg_ (b j)) → wa_ 0 G jX9_cutNumber (d + 1) 0 0 Q 0 0 M 6 [some (.ref t), some (.ref e), some (.int (nI q)), some (.int (nI n)), some (.int (nI s)), some (.int (nv_ b q (s - q)))] [] := by
    intro r
    induction r using Nat.strongRecOn with
    | ind r ih =>
      intro s hr hqs hsn hall
      have hlt : ¬ dg_ (b s) → q < s := by
        intro h
        rcases Nat.lt_or_ge q s with h2 | h2
        · exact h2
        · exact absurd hdq (by rw [show q = s from by omega]; exact h)
      refine wa_iload dX9_cutNumber_6 rfl ?_
      refine wa_iload_n dX9_cutNumber_8 rfl ?_
      refine wa_icmp_ge (tgt := 47) dX9_cutNumber_9 (by decide) (fun hT9 => ?_) (fun hF9 => ?_)
      · first
          | exact s47 s (hlt hL) hsn hall hL
          | (have hsn2 : s = n := by
               have := ni_le hT9 (by omega) (by omega)
               omega
             have hL : ¬ dg_ (b s) := by rw [hb.2.2.2.2.2 s (by omega)]; exact dg_m1
             exact s47 s (hlt hL) hsn hall hL)
      · have hs2 : s < n := ni_nle hF9 (by omega) (by omega)
        refine wa_aload_n dX9_cutNumber_12 rfl rfl ?_
        refine wa_iload dX9_cutNumber_13 rfl ?_
        refine wa_callV (q := (RX5, TX5, 2)) (As := [.int (nI s)]) dX9_cutNumber_15 lk_X9_39 rfl rfl hb.1.1 rfl rfl (Nat.le_of_ble_eq_true rfl) (Nat.le_of_eq (Nat.zero_add _)) (Nat.le_of_eq (Nat.zero_add _)) (kb_at s hb hs2 ?_)
        refine wa_callS (As := [.int (b s)]) dX9_cutNumber_18 lk_X9_52 rfl rfl (Nat.le_of_ble_eq_true rfl) (Nat.le_of_eq (Nat.zero_add _)) (Nat.le_of_eq (Nat.zero_add _)) (k_X9_isDigit (b s) (fun hL => ?_) (fun hL => ?_))
        · refine wa_if_eq (tgt := 47) dX9_cutNumber_21 (by decide) (fun h9 => absurd h9 (by decide)) (fun _ => ?_)
          refine wa_iload dX9_cutNumber_24 rfl ?_
          refine wa_bipush (v := 10) dX9_cutNumber_26 (by decide) ?_
          refine wa_imul dX9_cutNumber_28 ?_
          refine wa_aload_n dX9_cutNumber_29 rfl rfl ?_
          refine wa_iload dX9_cutNumber_30 rfl ?_
          refine wa_callV (q := (RX5, TX5, 2)) (As := [.int (nI s)]) dX9_cutNumber_32 lk_X9_39 rfl rfl hb.1.1 rfl rfl (Nat.le_of_ble_eq_true rfl) (Nat.le_of_eq (Nat.zero_add _)) (Nat.le_of_eq (Nat.zero_add _)) (kb_at s hb hs2 ?_)
          refine wa_iadd dX9_cutNumber_35 ?_
          refine wa_bipush (v := 48) dX9_cutNumber_36 (by decide) ?_
          refine wa_isub dX9_cutNumber_38 ?_
          rw [show nv_ b q (s - q) * 10 + b s - 48 = nv_ b q (s + 1 - q) from by rw [show s + 1 - q = (s - q) + 1 from by omega, nv_, show q + (s - q) = s from by omega, Int32.mul_comm]]
          refine wa_istore dX9_cutNumber_39 (by decide) rfl rfl ?_
          refine wa_iinc (v := nI (s + 1)) dX9_cutNumber_41 rfl (ni_i1 s) (by decide) rfl rfl ?_
          refine wa_goto (tgt := 6) dX9_cutNumber_44 (by decide) ?_
          refine ih (n - (s + 1)) (by omega) (s + 1) rfl (by omega) (by omega) (fun j h1 h2 => ?_)
          rcases Nat.lt_succ_iff_lt_or_eq.mp h2 with h | h
          · exact hall j h1 h
          · rw [h]; exact hL
        · refine wa_if_eq (tgt := 47) dX9_cutNumber_21 (by decide) (fun _ => ?_) (fun h9 => absurd h9 (by decide))
          first
            | exact s47 s (hlt hL) hsn hall hL
            | (have hsn2 : s = n := by
                 have := ni_le hT9 (by omega) (by omega)
                 omega
               have hL : ¬ dg_ (b s) := by rw [hb.2.2.2.2.2 s (by omega)]; exact dg_m1
               exact s47 s (hlt hL) hsn hall hL)
  refine wa_iload_n dX9_cutNumber_0 rfl ?_
  refine wa_istore dX9_cutNumber_1 (by decide) rfl rfl ?_
  refine wa_iconst (v := 0) dX9_cutNumber_3 (by decide) ?_
  refine wa_istore dX9_cutNumber_4 (by decide) rfl rfl ?_
  have e9 : (0 : Int32) = nv_ b q (q - q) := by rw [Nat.sub_self]; rfl
  exact e9 ▸ lp (n - q) q rfl (Nat.le_refl _) (Nat.le_of_lt hqn) (fun j h1 h2 => absurd h2 (by omega))

theorem k_X9_cutOne {G : mm_G} {d : Nat} {Q : Option Value → mm_M → Prop} {M : mm_M} {t e n0 n : Nat} {b : Nat → Int32} (q c f : Nat) (hcs : G.2.2.2.1 3 = .int 1) (hsf : G.2.2.2.1 6 = va_rn f) (ht : tok_ M t) (hb : tpb_ M e n0 n b) (hc : mm_I M t 3 = nI c) (hc3 : c ≤ 300) (hqn : q < n) (h0 : b q = 32 → Q (some (.int (nI (q + 1)))) M) (hQ : ∀ (s : Nat) (k v : Int32), q < s → s ≤ n → ¬ b q = 32 → tq_ b n q k v s → Q (some (.int (nI s))) (pt_ M t c k (nI q) v)) : ma_ G jX9_cutOne (d + 7) 0 0 [.ref t, .ref e, .int (nI q), .int (nI n)] M Q := by
  refine ma_of [some (.ref t), some (.ref e), some (.int (nI q)), some (.int (nI n)), none] (by decide) rfl (Nat.le_of_ble_eq_true rfl) ?_
  have hn3 : n ≤ 300 := Nat.le_trans hb.2.2.2.1 hb.2.2.1
  obtain ⟨-, cb, hcb, ecb⟩ := hb.2.2.2.2.1 q hqn
  have s64 : ∀ (k : Int32), ¬ b q = 32 → tq_ b n q k 0 (q + 1) → wa_ 0 G jX9_cutOne (d + 7) 0 0 Q 0 0 M 64 [some (.ref t), some (.ref e), some (.int (nI q)), some (.int (nI n)), some (.int (b q))] [.int k, .ref t] := by
    intro k h32 hk
    refine wa_iload_n dX9_cutOne_64 rfl ?_
    refine wa_iconst (v := 0) dX9_cutOne_65 (by decide) ?_
    refine wa_callV (q := (RX9, TX9, 4)) (As := [.int k, .int (nI q), .int 0]) dX9_cutOne_66 lk_X9_35 rfl rfl ht.1 rfl rfl (Nat.le_of_ble_eq_true rfl) (Nat.le_of_eq (Nat.zero_add _)) (Nat.le_of_eq (Nat.zero_add _)) (k_X9_put k (nI q) 0 c ht hc hc3 ?_)
    refine wa_iload_n dX9_cutOne_69 rfl ?_
    refine wa_iconst (v := 1) dX9_cutOne_70 (by decide) ?_
    refine wa_iadd dX9_cutOne_71 ?_
    rw [show nI q + 1 = nI (q + 1) from ni_i1 q]
    exact wa_iret dX9_cutOne_72 rfl (hQ (q + 1) k 0 (by omega) (by omega) h32 hk)
  refine wa_aload_n dX9_cutOne_0 rfl rfl ?_
  refine wa_iload_n dX9_cutOne_1 rfl ?_
  refine wa_callV (q := (RX5, TX5, 2)) (As := [.int (nI q)]) dX9_cutOne_2 lk_X9_39 rfl rfl hb.1.1 rfl rfl (Nat.le_of_ble_eq_true rfl) (Nat.le_of_eq (Nat.zero_add _)) (Nat.le_of_eq (Nat.zero_add _)) (kb_at q hb hqn ?_)
  refine wa_istore dX9_cutOne_5 (by decide) rfl rfl ?_
  refine wa_iload dX9_cutOne_7 rfl ?_
  refine wa_callS (As := [.int (b q)]) dX9_cutOne_9 lk_X9_45 rfl rfl (Nat.le_of_ble_eq_true rfl) (Nat.le_of_eq (Nat.zero_add _)) (Nat.le_of_eq (Nat.zero_add _)) (k_X9_isLetter (b q) (fun hL => ?_) (fun hL => ?_))
  · refine wa_if_eq (tgt := 23) dX9_cutOne_12 (by decide) (fun h9 => absurd h9 (by decide)) (fun _ => ?_)
    refine wa_aload_n dX9_cutOne_15 rfl rfl ?_
    refine wa_aload_n dX9_cutOne_16 rfl rfl ?_
    refine wa_iload_n dX9_cutOne_17 rfl ?_
    refine wa_iload_n dX9_cutOne_18 rfl ?_
    refine wa_callV (q := (RX9, TX9, 4)) (As := [.ref e, .int (nI q), .int (nI n)]) dX9_cutOne_19 lk_X9_49 rfl rfl ht.1 rfl rfl (Nat.le_of_ble_eq_true rfl) (Nat.le_of_eq (Nat.zero_add _)) (Nat.le_of_eq (Nat.zero_add _)) (k_X9_cutWord q c f hcs hsf ht hb hc hc3 hqn hL (fun s k v h1 h2 h3 => ?_))
    exact wa_iret dX9_cutOne_22 rfl (hQ s k v h1 h2 (lt_32 hL) h3)
  · refine wa_if_eq (tgt := 23) dX9_cutOne_12 (by decide) (fun _ => ?_) (fun h9 => absurd h9 (by decide))
    refine wa_iload dX9_cutOne_23 rfl ?_
    refine wa_callS (As := [.int (b q)]) dX9_cutOne_25 lk_X9_52 rfl rfl (Nat.le_of_ble_eq_true rfl) (Nat.le_of_eq (Nat.zero_add _)) (Nat.le_of_eq (Nat.zero_add _)) (k_X9_isDigit (b q) (fun hD => ?_) (fun hD => ?_))
    · refine wa_if_eq (tgt := 39) dX9_cutOne_28 (by decide) (fun h9 => absurd h9 (by decide)) (fun _ => ?_)
      refine wa_aload_n dX9_cutOne_31 rfl rfl ?_
      refine wa_aload_n dX9_cutOne_32 rfl rfl ?_
      refine wa_iload_n dX9_cutOne_33 rfl ?_
      refine wa_iload_n dX9_cutOne_34 rfl ?_
      refine wa_callV (q := (RX9, TX9, 4)) (As := [.ref e, .int (nI q), .int (nI n)]) dX9_cutOne_35 lk_X9_55 rfl rfl ht.1 rfl rfl (Nat.le_of_ble_eq_true rfl) (Nat.le_of_eq (Nat.zero_add _)) (Nat.le_of_eq (Nat.zero_add _)) (k_X9_cutNumber (d := d + 5) q c ht hb hc hc3 hqn hL hD (fun s k v h1 h2 h3 => ?_))
      exact wa_iret dX9_cutOne_38 rfl (hQ s k v h1 h2 (dg_32 hD) h3)
    · refine wa_if_eq (tgt := 39) dX9_cutOne_28 (by decide) (fun _ => ?_) (fun h9 => absurd h9 (by decide))
      refine wa_iload dX9_cutOne_39 rfl ?_
      refine wa_bipush (v := 32) dX9_cutOne_41 (by decide) ?_
      refine wa_icmp_eq (tgt := 69) dX9_cutOne_43 (by decide) (fun hT43 => ?_) (fun hF43 => ?_)
      · refine wa_iload_n dX9_cutOne_69 rfl ?_
        refine wa_iconst (v := 1) dX9_cutOne_70 (by decide) ?_
        refine wa_iadd dX9_cutOne_71 ?_
        rw [show nI q + 1 = nI (q + 1) from ni_i1 q]
        exact wa_iret dX9_cutOne_72 rfl (h0 hT43)
      · have h32 : ¬ b q = 32 := hF43
        refine wa_aload_n dX9_cutOne_46 rfl rfl ?_
        refine wa_ldcS (k := 8) (tx := "<>=+*/;") dX9_cutOne_47 (by decide) ?_
        refine wa_iload dX9_cutOne_49 rfl ?_
        refine wa_i2c dX9_cutOne_51 ?_
        rw [show ((b q).toUInt32 % 65536).toInt32 = nI cb from by rw [ecb]; exact i2c_n cb hcb]
        refine wa_callVS (k := 8) (As := [.int (nI cb)]) dX9_cutOne_52 lk_X9_60 rfl rfl (by decide) rfl (Nat.le_of_ble_eq_true rfl) (Nat.le_of_eq (Nat.zero_add _)) (Nat.le_of_eq (Nat.zero_add _)) (k_idx cb hcs hcb (fun j hj ej => ?_) (fun hj => ?_))
        · have hsg : sg_ (b q) := by rw [ecb]; exact (sg_ix hcb).mpr ⟨j, hj, ej⟩
          refine wa_if_lt (tgt := 63) dX9_cutOne_55 (by decide) (fun hT55 => ?_) (fun hF55 => ?_)
          · refine wa_iconst (v := 1) dX9_cutOne_63 (by decide) ?_
            first | exact s64 _ h32 (Or.inr (Or.inr (Or.inr ⟨hqn, hL, hD, hsg, rfl⟩))) | exact absurd hT55 (nI_pos (by omega))
          · refine wa_iload dX9_cutOne_58 rfl ?_
            refine wa_goto (tgt := 64) dX9_cutOne_60 (by decide) ?_
            exact s64 _ h32 (Or.inr (Or.inr (Or.inl ⟨hqn, hL, hD, hsg, rfl, rfl⟩)))
        · have hsg : ¬ sg_ (b q) := by
            rw [ecb]
            intro h
            obtain ⟨j, h1, h2⟩ := (sg_ix hcb).mp h
            exact hj j h1 h2
          refine wa_if_lt (tgt := 63) dX9_cutOne_55 (by decide) (fun _ => ?_) (fun h9 => absurd h9 (by decide))
          refine wa_iconst (v := 1) dX9_cutOne_63 (by decide) ?_
          first | exact s64 _ h32 (Or.inr (Or.inr (Or.inr ⟨hqn, hL, hD, hsg, rfl⟩))) | exact absurd hT55 (nI_pos (by omega))
