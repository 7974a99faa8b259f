/-! the reference takes bytes -/
def fv_ (a b c e g : Int32) (k : Nat) : Int32 := if k < 4 then a else if k < 8 then b else if k < 12 then c else if k < 16 then e else g
def fb_ (v : Int32) (k : Nat) : Int32 := vp_nar .byte (v >>> ((24 - 8 * nI (k % 4)) &&& 31)).toInt8.toInt32
def fd_ (M : mm_M) (y n : Nat) (v : Nat → Int32) : Nat → mm_M
  | 0 => M
  | k + 1 => mm_sI (mm_sI (fd_ M y n v k) (y + 2) (n + k) (fb_ (v k) k)) y 6 (nI (n + k + 1))
theorem fd_sk (M : mm_M) (y n : Nat) (v : Nat → Int32) (k : Nat) : md_sk M (fd_ M y n v k) := by
  induction k with
  | zero => exact md_sk_rf M
  | succ k ih => exact ih
theorem fd_6 {M : mm_M} {y n : Nat} {v : Nat → Int32} (h : mm_I M y 6 = nI n) : ∀ k, mm_I (fd_ M y n v k) y 6 = nI (n + k)
  | 0 => h
  | k + 1 => mI_eq _ _ _ _
theorem ni_rem4 {k : Nat} (h : k < 2 ^ 31) : nI k - nI k / 4 * 4 = nI (k % 4) := pk_rem (d := 4) h (by decide) (by decide)

theorem k_X12_feed {G : mm_G} {d : Nat} {Q : Option Value → mm_M → Prop} {M : mm_M} {y : Nat} (a : Int32) (b : Int32) (c : Int32) (e : Int32) (g : Int32) {M0 : mm_M} (hM0 : M0 = mm_sI M y 0 0) (hY : mdl_ M0 y) (n : Nat) (hn : mm_I M0 y 6 = nI n) (hn3 : n ≤ 300) (h0 : ¬ n + 20 ≤ 300 → Q (some (.int (-1))) M0) (h1 : n + 20 ≤ 300 → Q (some (.int (nI (n + 20)))) (fd_ M0 y n (fv_ a b c e g) 20)) : ma_ G jX12_feed d 0 0 [.ref y, .int a, .int b, .int c, .int e, .int g] M Q := by
  refine ma_of [some (.ref y), some (.int a), some (.int b), some (.int c), some (.int e), some (.int g), none, none] (by decide) rfl (Nat.le_of_ble_eq_true rfl) ?_
  have hY0 : mdl_ M y := by subst hM0; exact hY
  refine wa_aload_n dX12_feed_0 rfl rfl ?_
  refine wa_iconst (v := 0) dX12_feed_1 (by decide) ?_
  refine wa_put (q := (RX12, TX12, 50)) (ci := 12) (k := 0) dX12_feed_2 rfl (by decide) wf_X12_123 rfl hY0.1 rfl ?_
  rw [show mm_put M y 0 (.int 0) = M0 from hM0.symm]
  have loop : n + 20 ≤ 300 → ∀ (r k : Nat), 20 - k = r → k ≤ 20 → wa_ 0 G jX12_feed d 0 0 Q 0 0 (fd_ M0 y n (fv_ a b c e g) k) 23 [some (.ref y), some (.int a), some (.int b), some (.int c), some (.int e), some (.int g), some (.int (nI k)), none] [] := by
    intro hn20 r
    induction r using Nat.strongRecOn with
    | ind r ih =>
      intro k hr hk
      have h6 := fd_6 (v := fv_ a b c e g) hn k
      have hYA : mdl_ (fd_ M0 y n (fv_ a b c e g) k) y := md_sk_mdl (fd_sk _ _ _ _ _) hY
      have s76 : k < 20 → ∀ v : Int32, v = fv_ a b c e g k → wa_ 0 G jX12_feed d 0 0 Q 0 0 (fd_ M0 y n (fv_ a b c e g) k) 76 [some (.ref y), some (.int a), some (.int b), some (.int c), some (.int e), some (.int g), some (.int (nI k)), none] [.int v] := by
        intro hk2 v hv
        subst hv
        refine wa_istore dX12_feed_76 (by decide) rfl rfl ?_
        refine wa_aload_n dX12_feed_78 rfl rfl ?_
        refine wa_getR (q := (RX12, TX12, 50)) (ci := 12) (k := 5) dX12_feed_79 rfl (by decide) wf_X12_20 hYA.1 rfl (md_r5 hYA) ?_
        refine wa_aload_n dX12_feed_82 rfl rfl ?_
        refine wa_getI (q := (RX12, TX12, 50)) (ci := 12) (k := 6) dX12_feed_83 rfl (by decide) wf_X12_250 hYA.1 rfl ?_
        rw [h6]
        refine wa_iload dX12_feed_86 rfl ?_
        refine wa_bipush (v := 24) dX12_feed_88 (by decide) ?_
        refine wa_bipush (v := 8) dX12_feed_90 (by decide) ?_
        refine wa_iload dX12_feed_92 rfl ?_
        refine wa_iconst (v := 4) dX12_feed_94 (by decide) ?_
        refine wa_irem dX12_feed_95 (by decide) ?_
        rw [ni_rem4 (by omega)]
        refine wa_imul dX12_feed_96 ?_
        refine wa_isub dX12_feed_97 ?_
        refine wa_ishr dX12_feed_98 ?_
        refine wa_i2b dX12_feed_99 ?_
        refine wa_bastN dX12_feed_100 (md_s5 hYA) (by omega) (by decide) ?_
        refine wa_aload_n dX12_feed_101 rfl rfl ?_
        refine wa_dup dX12_feed_102 rfl ?_
        refine wa_getI (q := (RX12, TX12, 50)) (ci := 12) (k := 6) dX12_feed_103 rfl (by decide) wf_X12_250 hYA.1 rfl ?_
        rw [mI_na _ _ _ _ _ _ (by omega), h6]
        refine wa_iconst (v := 1) dX12_feed_106 (by decide) ?_
        refine wa_iadd dX12_feed_107 ?_
        rw [show nI (n + k) + 1 = nI (n + k + 1) from ni_i1 _]
        refine wa_put (q := (RX12, TX12, 50)) (ci := 12) (k := 6) dX12_feed_108 rfl (by decide) wf_X12_250 rfl hYA.1 rfl ?_
        refine wa_iinc (v := nI (k + 1)) dX12_feed_111 rfl (ni_i1 k) (by decide) rfl rfl ?_
        refine wa_goto (tgt := 23) dX12_feed_114 (by decide) ?_
        exact wa_set0 7 (ih (20 - (k + 1)) (by omega) (k + 1) rfl (by omega))
      refine wa_iload dX12_feed_23 rfl ?_
      refine wa_bipush (v := 20) dX12_feed_25 (by decide) ?_
      refine wa_icmp_ge (tgt := 117) dX12_feed_27 (by decide) (fun hT27 => ?_) (fun hF27 => ?_)
      · have hk2 : k = 20 := by
          have := ni_le (a := 20) hT27 (by decide) (by omega)
          omega
        subst hk2
        refine wa_aload_n dX12_feed_117 rfl rfl ?_
        refine wa_getI (q := (RX12, TX12, 50)) (ci := 12) (k := 6) dX12_feed_118 rfl (by decide) wf_X12_250 hYA.1 rfl ?_
        rw [h6]
        exact wa_iret dX12_feed_121 rfl (h1 hn20)
      · refine wa_iload dX12_feed_30 rfl ?_
        refine wa_iconst (v := 4) dX12_feed_32 (by decide) ?_
        refine wa_icmp_ge (tgt := 40) dX12_feed_33 (by decide) (fun hT33 => ?_) (fun hF33 => ?_)
        · refine wa_iload dX12_feed_40 rfl ?_
          refine wa_bipush (v := 8) dX12_feed_42 (by decide) ?_
          refine wa_icmp_ge (tgt := 51) dX12_feed_44 (by decide) (fun hT44 => ?_) (fun hF44 => ?_)
          · refine wa_iload dX12_feed_51 rfl ?_
            refine wa_bipush (v := 12) dX12_feed_53 (by decide) ?_
            refine wa_icmp_ge (tgt := 62) dX12_feed_55 (by decide) (fun hT55 => ?_) (fun hF55 => ?_)
            · refine wa_iload dX12_feed_62 rfl ?_
              refine wa_bipush (v := 16) dX12_feed_64 (by decide) ?_
              refine wa_icmp_ge (tgt := 74) dX12_feed_66 (by decide) (fun hT66 => ?_) (fun hF66 => ?_)
              · refine wa_iload dX12_feed_74 rfl ?_
                exact s76 (ni_nle (a := 20) hF27 (by decide) (by omega)) _ (by unfold fv_; rw [if_neg (Nat.not_lt.mpr (ni_le (a := 4) hT33 (by decide) (by omega))), if_neg (Nat.not_lt.mpr (ni_le (a := 8) hT44 (by decide) (by omega))), if_neg (Nat.not_lt.mpr (ni_le (a := 12) hT55 (by decide) (by omega))), if_neg (Nat.not_lt.mpr (ni_le (a := 16) hT66 (by decide) (by omega)))])
              · refine wa_iload dX12_feed_69 rfl ?_
                refine wa_goto (tgt := 76) dX12_feed_71 (by decide) ?_
                exact s76 (ni_nle (a := 20) hF27 (by decide) (by omega)) _ (by unfold fv_; rw [if_neg (Nat.not_lt.mpr (ni_le (a := 4) hT33 (by decide) (by omega))), if_neg (Nat.not_lt.mpr (ni_le (a := 8) hT44 (by decide) (by omega))), if_neg (Nat.not_lt.mpr (ni_le (a := 12) hT55 (by decide) (by omega))), if_pos (ni_nle (a := 16) hF66 (by decide) (by omega))])
            · refine wa_iload_n dX12_feed_58 rfl ?_
              refine wa_goto (tgt := 76) dX12_feed_59 (by decide) ?_
              exact s76 (ni_nle (a := 20) hF27 (by decide) (by omega)) _ (by unfold fv_; rw [if_neg (Nat.not_lt.mpr (ni_le (a := 4) hT33 (by decide) (by omega))), if_neg (Nat.not_lt.mpr (ni_le (a := 8) hT44 (by decide) (by omega))), if_pos (ni_nle (a := 12) hF55 (by decide) (by omega))])
          · refine wa_iload_n dX12_feed_47 rfl ?_
            refine wa_goto (tgt := 76) dX12_feed_48 (by decide) ?_
            exact s76 (ni_nle (a := 20) hF27 (by decide) (by omega)) _ (by unfold fv_; rw [if_neg (Nat.not_lt.mpr (ni_le (a := 4) hT33 (by decide) (by omega))), if_pos (ni_nle (a := 8) hF44 (by decide) (by omega))])
        · refine wa_iload_n dX12_feed_36 rfl ?_
          refine wa_goto (tgt := 76) dX12_feed_37 (by decide) ?_
          exact s76 (ni_nle (a := 20) hF27 (by decide) (by omega)) _ (by unfold fv_; rw [if_pos (ni_nle (a := 4) hF33 (by decide) (by omega))])
  refine wa_aload_n dX12_feed_5 rfl rfl ?_
  refine wa_getI (q := (RX12, TX12, 50)) (ci := 12) (k := 6) dX12_feed_6 rfl (by decide) wf_X12_250 hY.1 rfl ?_
  rw [hn]
  refine wa_bipush (v := 20) dX12_feed_9 (by decide) ?_
  refine wa_iadd dX12_feed_11 ?_
  rw [show nI n + 20 = nI (n + 20) from nI_add n 20]
  refine wa_sipush (v := 300) dX12_feed_12 (by decide) ?_
  refine wa_icmp_le (tgt := 20) dX12_feed_15 (by decide) (fun hT15 => ?_) (fun hF15 => ?_)
  · refine wa_iconst (v := 0) dX12_feed_20 (by decide) ?_
    refine wa_istore dX12_feed_21 (by decide) rfl rfl ?_
    exact loop (ni_le (b := 300) hT15 (by omega) (by decide)) 20 0 rfl (by omega)
  · have hn9 : ¬ n + 20 ≤ 300 := fun q => hF15 (nI_le (b := 300) q (by decide))
    refine wa_iconst (v := -1) dX12_feed_18 (by decide) ?_
    exact wa_iret dX12_feed_19 rfl (h0 hn9)

/-! the reference is told a tariff -/
def md_sno (M : mm_M) (y T : Nat) (c : Nat → Int32) : Nat → mm_M
  | 0 => M
  | p + 1 => md_snd (md_sno M y T c p) y (30 * p + T) (c p)
theorem md_sno_sk (M : mm_M) (y T : Nat) (c : Nat → Int32) (n : Nat) : md_sk M (md_sno M y T c n) := by
  induction n with
  | zero => exact md_sk_rf M
  | succ n ih => exact ih
theorem md_sno_I (M : mm_M) (y T : Nat) (hT : T < 30) (c : Nat → Int32) (n a j : Nat) : mm_I (md_sno M y T c n) a j = if j % 30 = T ∧ j / 30 < n ∧ a = y + 23 then 0 else if j % 30 = T ∧ j / 30 < n ∧ a = y + 22 then 1000000 else if j % 30 = T ∧ j / 30 < n ∧ a = y + 21 then 1000000 else if j % 30 = T ∧ j / 30 < n ∧ a = y + 20 then c (j / 30) else mm_I M a j := by
  induction n with
  | zero =>
    rw [if_neg (by omega), if_neg (by omega), if_neg (by omega), if_neg (by omega)]
    rfl
  | succ n ih =>
    show mm_I (md_snd (md_sno M y T c n) y (30 * n + T) (c n)) a j = _
    rw [md_snd_I, ih]
    by_cases h : j = 30 * n + T
    · have h1 : j % 30 = T := by omega
      have h2 : j / 30 = n := by omega
      rw [h2]
      repeat' split
      all_goals first | rfl | (exfalso; omega)
    · repeat' split
      all_goals first | rfl | (exfalso; omega)
theorem md_sno_o {M : mm_M} {y T : Nat} (hT : T < 30) {c : Nat → Int32} {n a j : Nat} (h : ¬ (y + 20 ≤ a ∧ a ≤ y + 23)) : mm_I (md_sno M y T c n) a j = mm_I M a j := by
  rw [md_sno_I M y T hT, if_neg (by omega), if_neg (by omega), if_neg (by omega), if_neg (by omega)]
def md_tr0 (M : mm_M) (y n : Nat) : mm_M := mm_sI (mm_sI (mm_sI (mm_sI M y 7 (nI n)) y 6 0) y 8 0) y 3 0
theorem md_tr0_o {M : mm_M} {y n a j : Nat} (h : ¬ (a = y ∧ (j = 3 ∨ j = 6 ∨ j = 7 ∨ j = 8))) : mm_I (md_tr0 M y n) a j = mm_I M a j := by
  unfold md_tr0
  simp only [mm_I_sI]
  rw [if_neg (by omega), if_neg (by omega), if_neg (by omega), if_neg (by omega)]
theorem md_tr0_7 (M : mm_M) (y n : Nat) : mm_I (md_tr0 M y n) y 7 = nI n := by unfold md_tr0; simp [mm_I_sI]
theorem md_tr0_8 (M : mm_M) (y n : Nat) : mm_I (md_tr0 M y n) y 8 = nI 0 := by unfold md_tr0; simp [mm_I_sI]; rfl
/-- told: the day, and sent to P ports -/
def md_tel (M : mm_M) (y T P : Nat) : mm_M := mm_sI (md_sno (mm_sI M (y + 3) T (mm_I M y 27)) y T (fun p => mm_I M y 27 + mm_I M (y + 14) p) P) y 14 (nI (T + 1))

theorem k_X12_tariffB {G : mm_G} {d : Nat} {Q : Option Value → mm_M → Prop} {M : mm_M} {y : Nat} (w : Int32) {M0 : mm_M} (hM0 : M0 = mm_sI M y 0 0) (hY : mdl_ M0 y) (tp : Nat) (htp : mm_I M0 y 6 = nI tp) (hw : w < 0 ∨ nI tp < w) (hQ : Q (some (.int (-1))) (mm_sI (mm_sI M0 y 1 2) y 2 (-1))) : mt_ G (d + 1) 0 0 [.ref y, .int w] M Q := by
  refine mt_of [some (.ref y), some (.int w), none] rfl (Nat.le_of_ble_eq_true rfl) ?_
  have hY0 : mdl_ M y := by subst hM0; exact hY
  refine wa_aload_n dX12_tariff_0 rfl rfl ?_
  refine wa_iconst (v := 0) dX12_tariff_1 (by decide) ?_
  refine wa_put (q := (RX12, TX12, 50)) (ci := 12) (k := 0) dX12_tariff_2 rfl (by decide) wf_X12_123 rfl hY0.1 rfl ?_
  rw [show mm_put M y 0 (.int 0) = M0 from hM0.symm]
  refine wa_iload_n dX12_tariff_5 rfl ?_
  refine wa_if_lt (tgt := 17) dX12_tariff_6 (by decide) (fun hT6 => ?_) (fun hF6 => ?_)
  · refine wa_aload_n dX12_tariff_17 rfl rfl ?_
    refine wa_iconst (v := 2) dX12_tariff_18 (by decide) ?_
    refine wa_callV (q := (RX12, TX12, 50)) (As := [.int 2]) dX12_tariff_19 lk_X12_233 rfl rfl hY.1 rfl rfl (Nat.le_of_ble_eq_true rfl) (Nat.le_of_eq (Nat.zero_add _)) (Nat.le_of_eq (Nat.zero_add _)) (k_X12_refused 2 hY ?_)
    exact wa_iret dX12_tariff_22 rfl (hQ)
  · refine wa_iload_n dX12_tariff_9 rfl ?_
    refine wa_aload_n dX12_tariff_10 rfl rfl ?_
    refine wa_getI (q := (RX12, TX12, 50)) (ci := 12) (k := 6) dX12_tariff_11 rfl (by decide) wf_X12_250 hY.1 rfl ?_
    rw [htp]
    refine wa_icmp_le (tgt := 23) dX12_tariff_14 (by decide) (fun hT14 => ?_) (fun hF14 => ?_)
    · exact absurd hT14 (Int32.not_le.mpr (hw.resolve_left hF6))
    · refine wa_aload_n dX12_tariff_17 rfl rfl ?_
      refine wa_iconst (v := 2) dX12_tariff_18 (by decide) ?_
      refine wa_callV (q := (RX12, TX12, 50)) (As := [.int 2]) dX12_tariff_19 lk_X12_233 rfl rfl hY.1 rfl rfl (Nat.le_of_ble_eq_true rfl) (Nat.le_of_eq (Nat.zero_add _)) (Nat.le_of_eq (Nat.zero_add _)) (k_X12_refused 2 hY ?_)
      exact wa_iret dX12_tariff_22 rfl (hQ)

theorem k_X12_tariffO {G : mm_G} {d : Nat} {Q : Option Value → mm_M → Prop} {M : mm_M} {y : Nat} {b : Nat → Int32} {n m : Nat} {K L V : Nat → Int32} {P : Nat → Nat} (f : Nat) (hcs : G.2.2.2.1 3 = .int 1) (hsf : G.2.2.2.1 6 = va_rn f) {M0 : mm_M} (hM0 : M0 = mm_sI M y 0 0) (hY : mdl_ M0 y) (tp T P9 : Nat) (htp : mm_I M0 y 6 = nI tp) (htp3 : tp ≤ 300) (hnt : n ≤ tp) (hTb : mm_I M0 y 14 = nI T) (hT30 : T ≤ 30) (hPb : mm_I M0 y 26 = nI P9) (hP8 : P9 ≤ 8)
    (hs : stm_ b n m K L V P) (hP0 : P 0 = 0) (hb : md_by M0 y n = b)
    (hF : ∀ (q : Int32) (j : Nat) (M1 : mm_M), ps_lines K V 13 0 0 = .inl (q, j) → pfx_ (xr_ y T) (md_tr0 M0 y n) M1 y → Q (some (.int (-1))) (mm_sI (mm_sI (mm_sI M1 y 3 q) y 1 4) y 2 (L j)))
    (hR : ∀ (ls : List ps_L) (M1 : mm_M), ps_lines K V 13 0 0 = .inr ls → pfx_ (xr_ y T) (md_tr0 M0 y n) M1 y → rr_all M1 y T ls → T = 30 → Q (some (.int (-1))) (mm_sI (mm_sI M1 y 1 3) y 2 (-1)))
    (hO : ∀ (ls : List ps_L) (M1 : mm_M), ps_lines K V 13 0 0 = .inr ls → pfx_ (xr_ y T) (md_tr0 M0 y n) M1 y → rr_all M1 y T ls → T < 30 → Q (some (.int (nI T))) (mm_sI (mm_sI (md_tel M1 y T P9) y 1 0) y 2 (-1))) : mt_ G (d + 9) 0 0 [.ref y, .int (nI n)] M Q := by
  refine mt_of [some (.ref y), some (.int (nI n)), none] rfl (Nat.le_of_ble_eq_true rfl) ?_
  have s74 : ∀ (ls : List ps_L) (M1 : mm_M), ps_lines K V 13 0 0 = .inr ls → pfx_ (xr_ y T) (md_tr0 M0 y n) M1 y → rr_all M1 y T ls → wa_ 0 G jX12_tariff (d + 9) 0 0 Q 0 0 M1 74 [some (.ref y), some (.int (nI n)), none] [] := by
    intro ls M1 e1 p1 al
    have hY1 := pfx_mdl p1 hY
    have g14 : mm_I M1 y 14 = nI T := (p1.2.2.1 y 14 (by unfold xr_; omega)).trans ((md_tr0_o (by omega)).trans hTb)
    have g26 : mm_I M1 y 26 = nI P9 := (p1.2.2.1 y 26 (by unfold xr_; omega)).trans ((md_tr0_o (by omega)).trans hPb)
    have ha : ∀ p j, T < 30 → mm_I (md_sno (mm_sI M1 (y + 3) T (mm_I M1 y 27)) y T (fun p => mm_I M1 y 27 + mm_I M1 (y + 14) p) p) y j = mm_I M1 y j := fun p j hT9 => (md_sno_o hT9 (by omega)).trans (mI_na _ _ _ _ _ _ (by omega))
    have hb : ∀ p j, T < 30 → mm_I (md_sno (mm_sI M1 (y + 3) T (mm_I M1 y 27)) y T (fun p => mm_I M1 y 27 + mm_I M1 (y + 14) p) p) (y + 14) j = mm_I M1 (y + 14) j := fun p j hT9 => (md_sno_o hT9 (by omega)).trans (mI_na _ _ _ _ _ _ (by omega))
    have loop : T < 30 → ∀ (r p : Nat), P9 - p = r → p ≤ P9 → wa_ 0 G jX12_tariff (d + 9) 0 0 Q 0 0 (md_sno (mm_sI M1 (y + 3) T (mm_I M1 y 27)) y T (fun p => mm_I M1 y 27 + mm_I M1 (y + 14) p) p) 104 [some (.ref y), some (.int (nI n)), some (.int (nI p))] [] := by
      intro hT9 r
      induction r using Nat.strongRecOn with
      | ind r ih =>
        intro p hr hp
        have hYA : mdl_ (md_sno (mm_sI M1 (y + 3) T (mm_I M1 y 27)) y T (fun p => mm_I M1 y 27 + mm_I M1 (y + 14) p) p) y := md_sk_mdl (md_sno_sk _ _ _ _ _) hY1
        have a14 := (ha p 14 hT9).trans g14
        have a26 := (ha p 26 hT9).trans g26
        have a27 := ha p 27 hT9
        refine wa_iload_n dX12_tariff_104 rfl ?_
        refine wa_aload_n dX12_tariff_105 rfl rfl ?_
        refine wa_getI (q := (RX12, TX12, 50)) (ci := 12) (k := 26) dX12_tariff_106 rfl (by decide) wf_X12_236 hYA.1 rfl ?_
        rw [a26]
        refine wa_icmp_ge (tgt := 138) dX12_tariff_109 (by decide) (fun hT109 => ?_) (fun hF109 => ?_)
        · have hp2 : p = P9 := by
            have := ni_le hT109 (by omega) (by omega)
            omega
          subst hp2
          refine wa_aload_n dX12_tariff_138 rfl rfl ?_
          refine wa_dup dX12_tariff_139 rfl ?_
          refine wa_getI (q := (RX12, TX12, 50)) (ci := 12) (k := 14) dX12_tariff_140 rfl (by decide) wf_X12_201 hYA.1 rfl ?_
          rw [a14]
          refine wa_iconst (v := 1) dX12_tariff_143 (by decide) ?_
          refine wa_iadd dX12_tariff_144 ?_
          rw [show nI T + 1 = nI (T + 1) from ni_i1 T]
          refine wa_put (q := (RX12, TX12, 50)) (ci := 12) (k := 14) dX12_tariff_145 rfl (by decide) wf_X12_201 rfl hYA.1 rfl ?_
          refine wa_aload_n dX12_tariff_148 rfl rfl ?_
          refine wa_aload_n dX12_tariff_149 rfl rfl ?_
          refine wa_getI (q := (RX12, TX12, 50)) (ci := 12) (k := 14) dX12_tariff_150 rfl (by decide) wf_X12_201 hYA.1 rfl ?_
          rw [show mm_I (mm_put (md_sno (mm_sI M1 (y + 3) T (mm_I M1 y 27)) y T (fun p => mm_I M1 y 27 + mm_I M1 (y + 14) p) p) y 14 (.int (nI (T + 1)))) y 14 = nI (T + 1) from mI_eq _ _ _ _]
          refine wa_iconst (v := 1) dX12_tariff_153 (by decide) ?_
          refine wa_isub dX12_tariff_154 ?_
          rw [nI_pred T]
          refine wa_callV (q := (RX12, TX12, 50)) (As := [.int (nI T)]) dX12_tariff_155 lk_X12_246 rfl rfl hYA.1 rfl rfl (Nat.le_of_ble_eq_true rfl) (Nat.le_of_eq (Nat.zero_add _)) (Nat.le_of_eq (Nat.zero_add _)) (k_X12_done (nI T) hYA ?_)
          exact wa_iret dX12_tariff_158 rfl (hO ls M1 e1 p1 al hT9)
        · have hp2 : p < P9 := ni_nle hF109 (by omega) (by omega)
          refine wa_aload_n dX12_tariff_112 rfl rfl ?_
          refine wa_iload_n dX12_tariff_113 rfl ?_
          refine wa_aload_n dX12_tariff_114 rfl rfl ?_
          refine wa_getI (q := (RX12, TX12, 50)) (ci := 12) (k := 14) dX12_tariff_115 rfl (by decide) wf_X12_201 hYA.1 rfl ?_
          rw [a14]
          refine wa_aload_n dX12_tariff_118 rfl rfl ?_
          refine wa_getI (q := (RX12, TX12, 50)) (ci := 12) (k := 27) dX12_tariff_119 rfl (by decide) wf_X12_239 hYA.1 rfl ?_
          rw [a27]
          refine wa_aload_n dX12_tariff_122 rfl rfl ?_
          refine wa_getR (q := (RX12, TX12, 50)) (ci := 12) (k := 28) dX12_tariff_123 rfl (by decide) wf_X12_58 hYA.1 rfl (md_r28 hYA) ?_
          refine wa_iload_n dX12_tariff_126 rfl ?_
          refine wa_ialdN dX12_tariff_127 (md_s28 hYA) (Or.inl rfl) (by omega) (by decide) ?_
          rw [hb p p hT9]
          refine wa_iadd dX12_tariff_128 ?_
          refine wa_callV (q := (RX12, TX12, 50)) (As := [.int (nI p), .int (nI T), .int (mm_I M1 y 27 + mm_I M1 (y + 14) p)]) dX12_tariff_129 lk_X12_242 rfl rfl hYA.1 rfl rfl (Nat.le_of_ble_eq_true rfl) (Nat.le_of_eq (Nat.zero_add _)) (Nat.le_of_eq (Nat.zero_add _)) (k_X12_sends p T _ hYA (by omega) hT9 ?_)
          refine wa_iinc (v := nI (p + 1)) dX12_tariff_132 rfl (ni_i1 p) (by decide) rfl rfl ?_
          refine wa_goto (tgt := 104) dX12_tariff_135 (by decide) ?_
          exact ih (P9 - (p + 1)) (by omega) (p + 1) rfl (by omega)
    refine wa_aload_n dX12_tariff_74 rfl rfl ?_
    refine wa_getI (q := (RX12, TX12, 50)) (ci := 12) (k := 14) dX12_tariff_75 rfl (by decide) wf_X12_201 hY1.1 rfl ?_
    rw [g14]
    refine wa_bipush (v := 30) dX12_tariff_78 (by decide) ?_
    refine wa_icmp_ne (tgt := 89) dX12_tariff_80 (by decide) (fun hT80 => ?_) (fun hF80 => ?_)
    · have hT9 : T < 30 := Nat.lt_of_le_of_ne hT30 (fun e => hT80 (by rw [e]; rfl))
      refine wa_aload_n dX12_tariff_89 rfl rfl ?_
      refine wa_getR (q := (RX12, TX12, 50)) (ci := 12) (k := 15) dX12_tariff_90 rfl (by decide) wf_X12_24 hY1.1 rfl (md_r15 hY1) ?_
      refine wa_aload_n dX12_tariff_93 rfl rfl ?_
      refine wa_getI (q := (RX12, TX12, 50)) (ci := 12) (k := 14) dX12_tariff_94 rfl (by decide) wf_X12_201 hY1.1 rfl ?_
      rw [g14]
      refine wa_aload_n dX12_tariff_97 rfl rfl ?_
      refine wa_getI (q := (RX12, TX12, 50)) (ci := 12) (k := 27) dX12_tariff_98 rfl (by decide) wf_X12_239 hY1.1 rfl ?_
      refine wa_iastN dX12_tariff_101 (md_s15 hY1) (by omega) (by decide) ?_
      refine wa_iconst (v := 0) dX12_tariff_102 (by decide) ?_
      refine wa_istore_n dX12_tariff_103 (by decide) rfl rfl ?_
      exact loop hT9 P9 0 rfl (by omega)
    · have hT9 : T = 30 := (nI_eq (by omega) (by decide)).mp hF80
      refine wa_aload_n dX12_tariff_83 rfl rfl ?_
      refine wa_iconst (v := 3) dX12_tariff_84 (by decide) ?_
      refine wa_callV (q := (RX12, TX12, 50)) (As := [.int 3]) dX12_tariff_85 lk_X12_233 rfl rfl hY1.1 rfl rfl (Nat.le_of_ble_eq_true rfl) (Nat.le_of_eq (Nat.zero_add _)) (Nat.le_of_eq (Nat.zero_add _)) (k_X12_refused 3 hY1 ?_)
      exact wa_iret dX12_tariff_88 rfl (hR ls M1 e1 p1 al hT9)
  have s50 : ∀ (q : Int32) (j : Nat) (M1 : mm_M), ps_lines K V 13 0 0 = .inl (q, j) → pfx_ (xr_ y T) (md_tr0 M0 y n) M1 y → spd_ M1 y q (L j) → wa_ 0 G jX12_tariff (d + 9) 0 0 Q 0 0 M1 50 [some (.ref y), some (.int (nI n)), none] [.ref (y + 1)] := by
    intro q j M1 e1 p1 d1
    have hY1 := pfx_mdl p1 hY
    refine wa_astore_n dX12_tariff_50 (by decide) rfl rfl rfl ?_
    refine wa_aload_n dX12_tariff_51 rfl rfl ?_
    refine wa_aload_n dX12_tariff_52 rfl rfl ?_
    refine wa_getIN (q := (RX11, TX11, 8)) (ci := 11) (host := "ConsulDeskModel") (k := 6) dX12_tariff_53 rfl (by decide) (by decide) (md_s4 hY1) rfl ?_
    rw [d1.1]
    refine wa_put (q := (RX12, TX12, 50)) (ci := 12) (k := 3) dX12_tariff_56 rfl (by decide) wf_X12_253 rfl hY1.1 rfl ?_
    refine wa_aload_n dX12_tariff_59 rfl rfl ?_
    refine wa_iconst (v := 4) dX12_tariff_60 (by decide) ?_
    refine wa_put (q := (RX12, TX12, 50)) (ci := 12) (k := 1) dX12_tariff_61 rfl (by decide) wf_X12_126 rfl hY1.1 rfl ?_
    refine wa_aload_n dX12_tariff_64 rfl rfl ?_
    refine wa_aload_n dX12_tariff_65 rfl rfl ?_
    refine wa_getIN (q := (RX11, TX11, 8)) (ci := 11) (host := "ConsulDeskModel") (k := 7) dX12_tariff_66 rfl (by decide) (by decide) (md_s4 hY1) rfl ?_
    rw [show mm_I (mm_put (mm_put M1 y 3 (.int q)) y 1 (.int 4)) (y + 1) 7 = L j from (mI_na _ _ _ _ _ _ (by omega)).trans ((mI_na _ _ _ _ _ _ (by omega)).trans d1.2)]
    refine wa_put (q := (RX12, TX12, 50)) (ci := 12) (k := 2) dX12_tariff_69 rfl (by decide) wf_X12_9 rfl hY1.1 rfl ?_
    refine wa_iconst (v := -1) dX12_tariff_72 (by decide) ?_
    exact wa_iret dX12_tariff_73 rfl (hF q j M1 e1 p1)
  have hY0 : mdl_ M y := by subst hM0; exact hY
  refine wa_aload_n dX12_tariff_0 rfl rfl ?_
  refine wa_iconst (v := 0) dX12_tariff_1 (by decide) ?_
  refine wa_put (q := (RX12, TX12, 50)) (ci := 12) (k := 0) dX12_tariff_2 rfl (by decide) wf_X12_123 rfl hY0.1 rfl ?_
  rw [show mm_put M y 0 (.int 0) = M0 from hM0.symm]
  refine wa_iload_n dX12_tariff_5 rfl ?_
  refine wa_if_lt (tgt := 17) dX12_tariff_6 (by decide) (fun hT6 => absurd hT6 (nI_pos (by omega))) (fun hF6 => ?_)
  refine wa_iload_n dX12_tariff_9 rfl ?_
  refine wa_aload_n dX12_tariff_10 rfl rfl ?_
  refine wa_getI (q := (RX12, TX12, 50)) (ci := 12) (k := 6) dX12_tariff_11 rfl (by decide) wf_X12_250 hY.1 rfl ?_
  rw [htp]
  refine wa_icmp_le (tgt := 23) dX12_tariff_14 (by decide) (fun hT14 => ?_) (fun hF14 => absurd (nI_le hnt (by omega)) hF14)
  refine wa_aload_n dX12_tariff_23 rfl rfl ?_
  refine wa_iload_n dX12_tariff_24 rfl ?_
  refine wa_put (q := (RX12, TX12, 50)) (ci := 12) (k := 7) dX12_tariff_25 rfl (by decide) wf_X12_135 rfl hY.1 rfl ?_
  refine wa_aload_n dX12_tariff_28 rfl rfl ?_
  refine wa_iconst (v := 0) dX12_tariff_29 (by decide) ?_
  refine wa_put (q := (RX12, TX12, 50)) (ci := 12) (k := 6) dX12_tariff_30 rfl (by decide) wf_X12_250 rfl hY.1 rfl ?_
  refine wa_aload_n dX12_tariff_33 rfl rfl ?_
  refine wa_iconst (v := 0) dX12_tariff_34 (by decide) ?_
  refine wa_put (q := (RX12, TX12, 50)) (ci := 12) (k := 8) dX12_tariff_35 rfl (by decide) wf_X12_150 rfl hY.1 rfl ?_
  refine wa_aload_n dX12_tariff_38 rfl rfl ?_
  refine wa_iconst (v := 0) dX12_tariff_39 (by decide) ?_
  refine wa_put (q := (RX12, TX12, 50)) (ci := 12) (k := 3) dX12_tariff_40 rfl (by decide) wf_X12_253 rfl hY.1 rfl ?_
  refine wa_aload_n dX12_tariff_43 rfl rfl ?_
  refine wt_call hY.1 (Nat.le_of_eq (Nat.zero_add _)) (Nat.le_of_eq (Nat.zero_add _)) (k_X12_reads f hcs hsf hs hP0 (T := T) hY ?_ hT30 ?_ ?_ ?_ (fun q j M1 e1 p1 d1 => ⟨md_s4 (pfx_mdl p1 hY), s50 q j M1 e1 p1 d1⟩) (fun ls M1 e1 p1 al => ?_))
  · exact (md_tr0_o (M := M0) (n := n) (by omega)).trans hTb
  · exact md_tr0_7 M0 y n
  · rw [← hb]
    funext j
    show md_by (md_tr0 M0 y n) y n j = md_by M0 y n j
    unfold md_by
    rw [md_tr0_o (by omega)]
  · exact md_tr0_8 M0 y n
  · refine wa_goto (tgt := 74) dX12_tariff_47 (by decide) ?_
    exact s74 ls M1 e1 p1 al
