/-! the reference cuts its text -/
def lt_ (v : Int32) : Prop := 97 ≤ v ∧ v ≤ 122
def dg_ (v : Int32) : Prop := 48 ≤ v ∧ v ≤ 57
def sg_ (v : Int32) : Prop := v = 60 ∨ v = 62 ∨ v = 61 ∨ v = 43 ∨ v = 42 ∨ v = 47 ∨ v = 59
/-- a byte of the text, -1 behind its end -/
def md_by (M : mm_M) (y n k : Nat) : Int32 := if k < n then mm_I M (y + 2) k &&& 255 else -1
def wv_ (b : Nat → Int32) (q : Nat) : Nat → Int64
  | 0 => 0
  | k + 1 => 32 * wv_ b q k + (b (q + k) - 97 + 1).toInt64
def nv_ (b : Nat → Int32) (q : Nat) : Nat → Int32
  | 0 => 0
  | k + 1 => 10 * nv_ b q k + b (q + k) - 48
/-- a text's own number, its letters' places in base 32 -/
def wo_ (k : Nat) : Nat → Int64 := wv_ (mm_ch k) 0
def tkf_ (M M' : mm_M) (y : Nat) : Prop := M'.1 = M.1 ∧ M'.2.2.2 = M.2.2.2 ∧ (∀ a j, ¬ (a = y ∧ 8 ≤ j ∧ j ≤ 12) → mm_I M' a j = mm_I M a j) ∧ ∀ a j, ¬ (a = y ∧ j = 13) → mm_L M' a j = mm_L M a j
theorem mI_eq (M : mm_M) (a k : Nat) (v : Int32) : mm_I (mm_sI M a k v) a k = v := by simp [mm_I_sI]
theorem mI_ne (M : mm_M) (a k j : Nat) (v : Int32) (h : j ≠ k) : mm_I (mm_sI M a k v) a j = mm_I M a j := by simp [mm_I_sI, h]
theorem mI_na (M : mm_M) (a b k j : Nat) (v : Int32) (h : b ≠ a) : mm_I (mm_sI M a k v) b j = mm_I M b j := by simp [mm_I_sI, h]
theorem mL_eq (M : mm_M) (a k : Nat) (v : Int64) : mm_L (mm_sL M a k v) a k = v := by simp [mm_L_sL]
theorem tkf_rf (M : mm_M) (y : Nat) : tkf_ M M y := ⟨rfl, rfl, fun _ _ _ => rfl, fun _ _ _ => rfl⟩
theorem tkf_tr {M M' M2 : mm_M} {y : Nat} (h : tkf_ M M' y) (g : tkf_ M' M2 y) : tkf_ M M2 y := ⟨g.1.trans h.1, g.2.1.trans h.2.1, fun a j q => (g.2.2.1 a j q).trans (h.2.2.1 a j q), fun a j q => (g.2.2.2 a j q).trans (h.2.2.2 a j q)⟩
theorem tkf_I {M M' : mm_M} {y k : Nat} {v : Int32} (h : tkf_ M M' y) (h1 : 8 ≤ k) (h2 : k ≤ 12) : tkf_ M (mm_sI M' y k v) y := by
  refine ⟨h.1, h.2.1, fun a j q => ?_, h.2.2.2⟩
  rw [mm_I_sI, if_neg (fun g => q ⟨g.1, by omega, by omega⟩)]
  exact h.2.2.1 a j q
theorem tkf_L {M M' : mm_M} {y : Nat} {v : Int64} (h : tkf_ M M' y) : tkf_ M (mm_sL M' y 13 v) y := by
  refine ⟨h.1, h.2.1, h.2.2.1, fun a j q => ?_⟩
  rw [mm_L_sL, if_neg q]
  exact h.2.2.2 a j q
theorem tkf_mdl {M M' : mm_M} {y : Nat} (h : tkf_ M M' y) (hY : mdl_ M y) : mdl_ M' y := by
  obtain ⟨M1, MI, ML, M2⟩ := M
  obtain ⟨N1, NI, NL, N2⟩ := M'
  obtain ⟨h1, h2, -, -⟩ := h
  cases h1
  cases h2
  exact hY
theorem tkf_by {M M' : mm_M} {y n k : Nat} (h : tkf_ M M' y) : md_by M' y n k = md_by M y n k := by
  unfold md_by
  rw [h.2.2.1 (y + 2) k (fun q => by omega)]
theorem tkf_i {M M' : mm_M} {y a j : Nat} (h : tkf_ M M' y) (q : ¬ (a = y ∧ 8 ≤ j ∧ j ≤ 12)) : mm_I M' a j = mm_I M a j := h.2.2.1 a j q
theorem md_byn {M : mm_M} {y n k : Nat} (h : n ≤ k) : md_by M y n k = -1 := by unfold md_by; rw [if_neg (by omega)]
theorem lgc_ne {a b : Int64} (h : ¬ lg_cmp a b = 0) : ¬ a = b := by
  intro q
  subst q
  exact h (by simp [lg_cmp])
theorem lgc_eq {a b : Int64} (h : lg_cmp a b = 0) : a = b := by
  unfold lg_cmp at h
  split at h
  · exact absurd h (by decide)
  · split at h
    · assumption
    · exact absurd h (by decide)

theorem k_X12_byteAt {G : mm_G} {d : Nat} {Q : Option Value → mm_M → Prop} {M : mm_M} {y : Nat} (k : Nat) (hY : mdl_ M y) (n : Nat) (hn : mm_I M y 7 = nI n) (hn3 : n ≤ 300) (hk : k ≤ 1000) (hQ : Q (some (.int (md_by M y n k))) M) : ma_ G jX12_byteAt d 0 0 [.ref y, .int (nI k)] M Q := by
  refine ma_of [some (.ref y), some (.int (nI k))] (by decide) rfl (Nat.le_of_ble_eq_true rfl) ?_
  refine wa_iload_n dX12_byteAt_0 rfl ?_
  refine wa_aload_n dX12_byteAt_1 rfl rfl ?_
  refine wa_getI (q := (RX12, TX12, 50)) (ci := 12) (k := 7) dX12_byteAt_2 rfl (by decide) wf_X12_135 hY.1 rfl ?_
  rw [hn]
  refine wa_icmp_ge (tgt := 21) dX12_byteAt_5 (by decide) (fun hT5 => ?_) (fun hF5 => ?_)
  · refine wa_iconst (v := -1) dX12_byteAt_21 (by decide) ?_
    exact wa_iret dX12_byteAt_22 rfl (by unfold md_by at hQ; first | (rw [if_neg (Nat.not_lt.mpr (ni_le hT5 (by omega) (by omega)))] at hQ; exact hQ) | (rw [if_pos (ni_nle hF5 (by omega) (by omega))] at hQ; exact hQ))
  · refine wa_aload_n dX12_byteAt_8 rfl rfl ?_
    refine wa_getR (q := (RX12, TX12, 50)) (ci := 12) (k := 5) dX12_byteAt_9 rfl (by decide) wf_X12_20 hY.1 rfl (md_r5 hY) ?_
    refine wa_iload_n dX12_byteAt_12 rfl ?_
    refine wa_baldN dX12_byteAt_13 (md_s5 hY) (Or.inl rfl) (have := ni_nle hF5 (by omega) (by omega); by omega) (by decide) ?_
    refine wa_sipush (v := 255) dX12_byteAt_14 (by decide) ?_
    refine wa_iand dX12_byteAt_17 ?_
    refine wa_goto (tgt := 22) dX12_byteAt_18 (by decide) ?_
    exact wa_iret dX12_byteAt_22 rfl (by unfold md_by at hQ; first | (rw [if_neg (Nat.not_lt.mpr (ni_le hT5 (by omega) (by omega)))] at hQ; exact hQ) | (rw [if_pos (ni_nle hF5 (by omega) (by omega))] at hQ; exact hQ))

theorem k_X12_isLetter {G : mm_G} {d : Nat} {Q : Option Value → mm_M → Prop} {M : mm_M} (v : Int32) (h1 : lt_ v → Q (some (.int 1)) M) (h0 : ¬ lt_ v → Q (some (.int 0)) M) : ma_ G jX12_isLetter d 0 0 [.int v] M Q := by
  refine ma_of [some (.int v)] (by decide) rfl (Nat.le_of_ble_eq_true rfl) ?_
  refine wa_iload_n dX12_isLetter_0 rfl ?_
  refine wa_bipush (v := 97) dX12_isLetter_1 (by decide) ?_
  refine wa_icmp_lt (tgt := 16) dX12_isLetter_3 (by decide) (fun hT3 => ?_) (fun hF3 => ?_)
  · refine wa_iconst (v := 0) dX12_isLetter_16 (by decide) ?_
    exact wa_zret dX12_isLetter_17 rfl rfl (h0 (fun q => by first | exact absurd q.1 (Int32.not_le.mpr (by assumption)) | exact absurd q.2 (Int32.not_le.mpr (by assumption))))
  · refine wa_iload_n dX12_isLetter_6 rfl ?_
    refine wa_bipush (v := 122) dX12_isLetter_7 (by decide) ?_
    refine wa_icmp_gt (tgt := 16) dX12_isLetter_9 (by decide) (fun hT9 => ?_) (fun hF9 => ?_)
    · refine wa_iconst (v := 0) dX12_isLetter_16 (by decide) ?_
      exact wa_zret dX12_isLetter_17 rfl rfl (h0 (fun q => by first | exact absurd q.1 (Int32.not_le.mpr (by assumption)) | exact absurd q.2 (Int32.not_le.mpr (by assumption))))
    · refine wa_iconst (v := 1) dX12_isLetter_12 (by decide) ?_
      refine wa_goto (tgt := 17) dX12_isLetter_13 (by decide) ?_
      exact wa_zret dX12_isLetter_17 rfl rfl (h1 ⟨Int32.not_lt.mp (by assumption), Int32.not_lt.mp (by assumption)⟩)

theorem k_X12_isDigit {G : mm_G} {d : Nat} {Q : Option Value → mm_M → Prop} {M : mm_M} (v : Int32) (h1 : dg_ v → Q (some (.int 1)) M) (h0 : ¬ dg_ v → Q (some (.int 0)) M) : ma_ G jX12_isDigit d 0 0 [.int v] M Q := by
  refine ma_of [some (.int v)] (by decide) rfl (Nat.le_of_ble_eq_true rfl) ?_
  refine wa_iload_n dX12_isDigit_0 rfl ?_
  refine wa_bipush (v := 48) dX12_isDigit_1 (by decide) ?_
  refine wa_icmp_lt (tgt := 16) dX12_isDigit_3 (by decide) (fun hT3 => ?_) (fun hF3 => ?_)
  · refine wa_iconst (v := 0) dX12_isDigit_16 (by decide) ?_
    exact wa_zret dX12_isDigit_17 rfl rfl (h0 (fun q => by first | exact absurd q.1 (Int32.not_le.mpr (by assumption)) | exact absurd q.2 (Int32.not_le.mpr (by assumption))))
  · refine wa_iload_n dX12_isDigit_6 rfl ?_
    refine wa_bipush (v := 57) dX12_isDigit_7 (by decide) ?_
    refine wa_icmp_gt (tgt := 16) dX12_isDigit_9 (by decide) (fun hT9 => ?_) (fun hF9 => ?_)
    · refine wa_iconst (v := 0) dX12_isDigit_16 (by decide) ?_
      exact wa_zret dX12_isDigit_17 rfl rfl (h0 (fun q => by first | exact absurd q.1 (Int32.not_le.mpr (by assumption)) | exact absurd q.2 (Int32.not_le.mpr (by assumption))))
    · refine wa_iconst (v := 1) dX12_isDigit_12 (by decide) ?_
      refine wa_goto (tgt := 17) dX12_isDigit_13 (by decide) ?_
      exact wa_zret dX12_isDigit_17 rfl rfl (h1 ⟨Int32.not_lt.mp (by assumption), Int32.not_lt.mp (by assumption)⟩)

theorem k_X12_is {G : mm_G} {d : Nat} {Q : Option Value → mm_M → Prop} {M : mm_M} {y : Nat} (c : Int32) (hY : mdl_ M y) (h1 : mm_I M y 9 = 4 → mm_I M y 11 = c → Q (some (.int 1)) M) (h0 : ¬ (mm_I M y 9 = 4 ∧ mm_I M y 11 = c) → Q (some (.int 0)) M) : ma_ G jX12_is d 0 0 [.ref y, .int c] M Q := by
  refine ma_of [some (.ref y), some (.int c)] (by decide) rfl (Nat.le_of_ble_eq_true rfl) ?_
  refine wa_aload_n dX12_is_0 rfl rfl ?_
  refine wa_getI (q := (RX12, TX12, 50)) (ci := 12) (k := 9) dX12_is_1 rfl (by decide) wf_X12_157 hY.1 rfl ?_
  refine wa_iconst (v := 4) dX12_is_4 (by decide) ?_
  refine wa_icmp_ne (tgt := 20) dX12_is_5 (by decide) (fun hT5 => ?_) (fun hF5 => ?_)
  · refine wa_iconst (v := 0) dX12_is_20 (by decide) ?_
    exact wa_zret dX12_is_21 rfl rfl (h0 (fun q => by first | exact absurd q.1 (by assumption) | exact absurd q.2 (by assumption)))
  · refine wa_aload_n dX12_is_8 rfl rfl ?_
    refine wa_getI (q := (RX12, TX12, 50)) (ci := 12) (k := 11) dX12_is_9 rfl (by decide) wf_X12_160 hY.1 rfl ?_
    refine wa_iload_n dX12_is_12 rfl ?_
    refine wa_icmp_ne (tgt := 20) dX12_is_13 (by decide) (fun hT13 => ?_) (fun hF13 => ?_)
    · refine wa_iconst (v := 0) dX12_is_20 (by decide) ?_
      exact wa_zret dX12_is_21 rfl rfl (h0 (fun q => by first | exact absurd q.1 (by assumption) | exact absurd q.2 (by assumption)))
    · refine wa_iconst (v := 1) dX12_is_16 (by decide) ?_
      refine wa_goto (tgt := 21) dX12_is_17 (by decide) ?_
      exact wa_zret dX12_is_21 rfl rfl (h1 hF5 hF13)

theorem k_X12_wordOf {G : mm_G} {d : Nat} {Q : Option Value → mm_M → Prop} {M : mm_M} (k f : Nat) (hcs : G.2.2.2.1 3 = .int 1) (hsf : G.2.2.2.1 6 = va_rn f) (hk : k < 9) (hQ : Q (some (.long (wo_ k (mm_ln k)))) M) : ma_ G jX12_wordOf (d + 4) 0 0 [.ref (G.2.2.2.2.1 k)] M Q := by
  refine ma_of [some (.ref (G.2.2.2.2.1 k)), none, none, none] (by decide) rfl (Nat.le_of_ble_eq_true rfl) ?_
  have h7 := mm_ln_le k hk
  have lp : ∀ (r i : Nat), mm_ln k - i = r → i ≤ mm_ln k → wa_ 0 G jX12_wordOf (d + 4) 0 0 Q 0 0 M 4 [some (.ref (G.2.2.2.2.1 k)), some (.long (wo_ k i)), none, some (.int (nI i))] [] := by
    intro r
    induction r with
    | zero =>
      intro i hr hi
      obtain rfl : i = mm_ln k := by omega
      refine wa_iload_n dX12_wordOf_4 rfl ?_
      refine wa_aload_n dX12_wordOf_5 rfl rfl ?_
      refine wa_callVS (k := k) (As := []) dX12_wordOf_6 lk_X12_138 rfl rfl hk rfl (Nat.le_of_ble_eq_true rfl) (Nat.le_of_eq (Nat.zero_add _)) (Nat.le_of_eq (Nat.zero_add _)) (k_len k hcs hk ?_)
      refine wa_icmp_ge (tgt := 36) dX12_wordOf_9 (by decide) (fun hT9 => ?_) (fun hF9 => absurd hF9 (fun h => h (Int32.le_refl _)))
      refine wa_lload_n dX12_wordOf_36 rfl ?_
      exact wa_lret dX12_wordOf_37 rfl (hQ)
    | succ r ih =>
      intro i hr hi
      refine wa_iload_n dX12_wordOf_4 rfl ?_
      refine wa_aload_n dX12_wordOf_5 rfl rfl ?_
      refine wa_callVS (k := k) (As := []) dX12_wordOf_6 lk_X12_138 rfl rfl hk rfl (Nat.le_of_ble_eq_true rfl) (Nat.le_of_eq (Nat.zero_add _)) (Nat.le_of_eq (Nat.zero_add _)) (k_len k hcs hk ?_)
      refine wa_icmp_ge (tgt := 36) dX12_wordOf_9 (by decide) (fun hT9 => absurd hT9 (fun h => absurd ((nI_leI (by omega) (by omega)).mp h) (by omega))) (fun hF9 => ?_)
      refine wa_ldc2 dX12_wordOf_12 wl_X12_144 ?_
      refine wa_lload_n dX12_wordOf_15 rfl ?_
      refine wa_lmul dX12_wordOf_16 ?_
      refine wa_aload_n dX12_wordOf_17 rfl rfl ?_
      refine wa_iload_n dX12_wordOf_18 rfl ?_
      refine wa_callVS (k := k) (As := [.int (nI i)]) dX12_wordOf_19 lk_X12_146 rfl rfl hk rfl (Nat.le_of_ble_eq_true rfl) (Nat.le_of_eq (Nat.zero_add _)) (Nat.le_of_eq (Nat.zero_add _)) (k_chr k i f hcs hk hsf (by omega) ?_)
      refine wa_bipush (v := 97) dX12_wordOf_22 (by decide) ?_
      refine wa_isub dX12_wordOf_24 ?_
      refine wa_iconst (v := 1) dX12_wordOf_25 (by decide) ?_
      refine wa_iadd dX12_wordOf_26 ?_
      refine wa_i2l dX12_wordOf_27 ?_
      refine wa_ladd dX12_wordOf_28 ?_
      refine wa_lstore_n dX12_wordOf_29 (by decide) rfl rfl ?_
      refine wa_iinc (v := nI (i + 1)) dX12_wordOf_30 rfl (ni_i1 i) (by decide) rfl rfl ?_
      refine wa_goto (tgt := 4) dX12_wordOf_33 (by decide) ?_
      have e9 : (32 : Int64) * wo_ k i + (mm_ch k i - 97 + 1).toInt64 = wo_ k (i + 1) := by unfold wo_; rw [wv_, Nat.zero_add]
      exact e9 ▸ ih (i + 1) (by omega) (by omega)
  refine wa_lconst (v := 0) dX12_wordOf_0 (by decide) ?_
  refine wa_lstore_n dX12_wordOf_1 (by decide) rfl rfl ?_
  refine wa_iconst (v := 0) dX12_wordOf_2 (by decide) ?_
  refine wa_istore_n dX12_wordOf_3 (by decide) rfl rfl ?_
  exact lp (mm_ln k) 0 (by omega) (by omega)

theorem k_X12_isWord {G : mm_G} {d : Nat} {Q : Option Value → mm_M → Prop} {M : mm_M} {y : Nat} (k f : Nat) (hY : mdl_ M y) (hcs : G.2.2.2.1 3 = .int 1) (hsf : G.2.2.2.1 6 = va_rn f) (hk : k < 9) (h1 : mm_I M y 9 = 2 → mm_L M y 13 = wo_ k (mm_ln k) → Q (some (.int 1)) M) (h0 : ¬ (mm_I M y 9 = 2 ∧ mm_L M y 13 = wo_ k (mm_ln k)) → Q (some (.int 0)) M) : ma_ G jX12_isWord (d + 5) 0 0 [.ref y, .ref (G.2.2.2.2.1 k)] M Q := by
  refine ma_of [some (.ref y), some (.ref (G.2.2.2.2.1 k))] (by decide) rfl (Nat.le_of_ble_eq_true rfl) ?_
  refine wa_aload_n dX12_isWord_0 rfl rfl ?_
  refine wa_getI (q := (RX12, TX12, 50)) (ci := 12) (k := 9) dX12_isWord_1 rfl (by decide) wf_X12_157 hY.1 rfl ?_
  refine wa_iconst (v := 2) dX12_isWord_4 (by decide) ?_
  refine wa_icmp_ne (tgt := 24) dX12_isWord_5 (by decide) (fun hT5 => ?_) (fun hF5 => ?_)
  · refine wa_iconst (v := 0) dX12_isWord_24 (by decide) ?_
    exact wa_zret dX12_isWord_25 rfl rfl (h0 (fun q => by first | exact absurd q.1 (by assumption) | exact absurd q.2 (lgc_ne (by assumption))))
  · refine wa_aload_n dX12_isWord_8 rfl rfl ?_
    refine wa_getL (q := (RX12, TX12, 50)) (ci := 12) (k := 13) dX12_isWord_9 rfl (by decide) wf_X12_167 hY.1 rfl ?_
    refine wa_aload_n dX12_isWord_12 rfl rfl ?_
    refine wa_callS (As := [.ref (G.2.2.2.2.1 k)]) dX12_isWord_13 lk_X12_177 rfl rfl (Nat.le_of_ble_eq_true rfl) (Nat.le_of_eq (Nat.zero_add _)) (Nat.le_of_eq (Nat.zero_add _)) (k_X12_wordOf k f hcs hsf hk ?_)
    refine wa_lcmp dX12_isWord_16 ?_
    refine wa_if_ne (tgt := 24) dX12_isWord_17 (by decide) (fun hT17 => ?_) (fun hF17 => ?_)
    · refine wa_iconst (v := 0) dX12_isWord_24 (by decide) ?_
      exact wa_zret dX12_isWord_25 rfl rfl (h0 (fun q => by first | exact absurd q.1 (by assumption) | exact absurd q.2 (lgc_ne (by assumption))))
    · refine wa_iconst (v := 1) dX12_isWord_20 (by decide) ?_
      refine wa_goto (tgt := 25) dX12_isWord_21 (by decide) ?_
      exact wa_zret dX12_isWord_25 rfl rfl (h1 hF5 (lgc_eq hF17))

theorem k_X12_next {G : mm_G} {d : Nat} {Q : Option Value → mm_M → Prop} {M : mm_M} {y : Nat} (n p : Nat) (hY : mdl_ M y) (hn : mm_I M y 7 = nI n) (hn3 : n ≤ 300) (hp : mm_I M y 8 = nI p) (hpn : p ≤ n)
    (hE : ∀ (q : Nat) (M' : mm_M), p ≤ q → q ≤ n → (∀ j, p ≤ j → j < q → md_by M y n j = 32) → ¬ md_by M y n q = 32 → tkf_ M M' y → mm_I M' y 10 = nI q → md_by M y n q = -1 → mm_I M' y 9 = 1 → mm_I M' y 8 = nI q → Q none M')
    (hW : ∀ (q : Nat) (M' : mm_M), p ≤ q → q ≤ n → (∀ j, p ≤ j → j < q → md_by M y n j = 32) → ¬ md_by M y n q = 32 → tkf_ M M' y → mm_I M' y 10 = nI q → ∀ e : Nat, q < e → e ≤ n → (∀ j, q ≤ j → j < e → lt_ (md_by M y n j)) → ¬ lt_ (md_by M y n e) → mm_I M' y 9 = (if e - q < 9 then 2 else 0) → mm_I M' y 8 = nI e → mm_L M' y 13 = wv_ (md_by M y n) q (min (e - q) 8) → Q none M')
    (hN : ∀ (q : Nat) (M' : mm_M), p ≤ q → q ≤ n → (∀ j, p ≤ j → j < q → md_by M y n j = 32) → ¬ md_by M y n q = 32 → tkf_ M M' y → mm_I M' y 10 = nI q → ¬ lt_ (md_by M y n q) → ∀ e : Nat, q < e → e ≤ n → (∀ j, q ≤ j → j < e → dg_ (md_by M y n j)) → ¬ dg_ (md_by M y n e) → mm_I M' y 9 = (if e - q < 4 then 3 else 0) → mm_I M' y 8 = nI e → mm_I M' y 12 = nv_ (md_by M y n) q (min (e - q) 3) → Q none M')
    (hS : ∀ (q : Nat) (M' : mm_M), p ≤ q → q ≤ n → (∀ j, p ≤ j → j < q → md_by M y n j = 32) → ¬ md_by M y n q = 32 → tkf_ M M' y → mm_I M' y 10 = nI q → ¬ lt_ (md_by M y n q) → ¬ dg_ (md_by M y n q) → sg_ (md_by M y n q) → mm_I M' y 9 = 4 → mm_I M' y 11 = md_by M y n q → mm_I M' y 8 = nI (q + 1) → Q none M')
    (hB : ∀ (q : Nat) (M' : mm_M), p ≤ q → q ≤ n → (∀ j, p ≤ j → j < q → md_by M y n j = 32) → ¬ md_by M y n q = 32 → tkf_ M M' y → mm_I M' y 10 = nI q → ¬ md_by M y n q = -1 → ¬ lt_ (md_by M y n q) → ¬ dg_ (md_by M y n q) → ¬ sg_ (md_by M y n q) → mm_I M' y 9 = 0 → Q none M') : ma_ G jX12_next (d + 1) 0 0 [.ref y] M Q := by
  refine ma_of [some (.ref y), none, none] (by decide) rfl (Nat.le_of_ble_eq_true rfl) ?_
  have b8 : ∀ k, n ≤ k → md_by M y n k = -1 := fun k h => md_byn h
  have nl : ¬ lt_ (-1) := by unfold lt_; decide
  have nd : ¬ dg_ (-1) := by unfold dg_; decide
  have lpW : ∀ (q : Nat), p ≤ q → q ≤ n → (∀ j, p ≤ j → j < q → md_by M y n j = 32) → ¬ md_by M y n q = 32 → lt_ (md_by M y n q) → ∀ (c : Int32) (r k : Nat) (M3 : mm_M), n - (q + k) = r → q + k ≤ n → (∀ j, q ≤ j → j < q + k → lt_ (md_by M y n j)) → tkf_ M M3 y → mm_I M3 y 10 = nI q → mm_I M3 y 9 = 0 → mm_I M3 y 8 = nI (q + k) → mm_L M3 y 13 = wv_ (md_by M y n) q (min k 8) → wa_ 0 G jX12_next (d + 1) 0 0 Q 0 0 M3 80 [some (.ref y), some (.int c), some (.int (nI k))] [] := by
    intro q hq1 hq2 hq3 hq4 hql c r
    induction r using Nat.strongRecOn with
    | ind r ih =>
      intro k M3 hr hk hj hf h10 h9 h8 h13
      have hY3 := tkf_mdl hf hY
      have st1 : q + k < n → lt_ (md_by M y n (q + k)) → ∀ M4 : mm_M, tkf_ M M4 y → mm_I M4 y 10 = nI q → mm_I M4 y 9 = 0 → mm_I M4 y 8 = nI (q + k) → mm_L M4 y 13 = wv_ (md_by M y n) q (min (k + 1) 8) → wa_ 0 G jX12_next (d + 1) 0 0 Q 0 0 M4 127 [some (.ref y), some (.int c), some (.int (nI k))] [] := by
        intro hlt hl M4 hf4 g10 g9 g8 g13
        have hY4 := tkf_mdl hf4 hY
        refine wa_iinc (v := nI (k + 1)) dX12_next_127 rfl (ni_i1 k) (by decide) rfl rfl ?_
        refine wa_aload_n dX12_next_130 rfl rfl ?_
        refine wa_dup dX12_next_131 rfl ?_
        refine wa_getI (q := (RX12, TX12, 50)) (ci := 12) (k := 8) dX12_next_132 rfl (by decide) wf_X12_150 hY4.1 rfl ?_
        rw [g8]
        refine wa_iconst (v := 1) dX12_next_135 (by decide) ?_
        refine wa_iadd dX12_next_136 ?_
        rw [show nI (q + k) + 1 = nI (q + (k + 1)) from ni_i1 (q + k)]
        refine wa_put (q := (RX12, TX12, 50)) (ci := 12) (k := 8) dX12_next_137 rfl (by decide) wf_X12_150 rfl hY4.1 rfl ?_
        refine wa_goto (tgt := 80) dX12_next_140 (by decide) ?_
        exact ih (n - (q + (k + 1))) (by omega) (k + 1) _ rfl (by omega) (fun j a b => by
          by_cases hx : j < q + k
          · exact hj j a hx
          · obtain rfl : q + k = j := by omega
            exact hl) (tkf_I hf4 (by decide) (by decide)) ((mI_ne _ _ _ _ _ (by decide)).trans g10) ((mI_ne _ _ _ _ _ (by decide)).trans g9) (mI_eq _ _ _ _) g13
      refine wa_aload_n dX12_next_80 rfl rfl ?_
      refine wa_aload_n dX12_next_81 rfl rfl ?_
      refine wa_getI (q := (RX12, TX12, 50)) (ci := 12) (k := 8) dX12_next_82 rfl (by decide) wf_X12_150 hY3.1 rfl ?_
      rw [h8]
      refine wa_callV (q := (RX12, TX12, 50)) (As := [.int (nI (q + k))]) dX12_next_85 lk_X12_153 rfl rfl hY3.1 rfl rfl (Nat.le_of_ble_eq_true rfl) (Nat.le_of_eq (Nat.zero_add _)) (Nat.le_of_eq (Nat.zero_add _)) (k_X12_byteAt (q + k) (tkf_mdl hf hY) n ((tkf_i hf (by omega)).trans hn) hn3 (by omega) ?_)
      rw [tkf_by hf]
      refine wa_callS (As := [.int (md_by M y n (q + k))]) dX12_next_88 lk_X12_163 rfl rfl (Nat.le_of_ble_eq_true rfl) (Nat.le_of_eq (Nat.zero_add _)) (Nat.le_of_eq (Nat.zero_add _)) (k_X12_isLetter _ (fun hl => ?_) (fun hl => ?_))
      · have hlt : q + k < n := Nat.not_le.mp (fun q9 => nl ((b8 _ q9) ▸ hl))
        refine wa_if_eq (tgt := 143) dX12_next_91 (by decide) (fun h9 => absurd h9 (by decide)) (fun _ => ?_)
        refine wa_iload_n dX12_next_94 rfl ?_
        refine wa_bipush (v := 8) dX12_next_95 (by decide) ?_
        refine wa_icmp_ge (tgt := 127) dX12_next_97 (by decide) (fun hT97 => ?_) (fun hF97 => ?_)
        · first | have h8k := ni_le (a := 8) hT97 (by omega) (by omega) | have h8k := ni_nle (a := 8) hF97 (by omega) (by omega)
          exact st1 hlt hl _ (by first | exact tkf_L hf | exact hf) h10 h9 h8 (by first | exact (mL_eq _ _ _ _).trans (by rw [Nat.min_eq_left (by omega : k ≤ 8), Nat.min_eq_left (by omega : k + 1 ≤ 8)]; rfl) | (rw [h13, Nat.min_eq_right (by omega : 8 ≤ k), Nat.min_eq_right (by omega : 8 ≤ k + 1)]))
        · refine wa_aload_n dX12_next_100 rfl rfl ?_
          refine wa_ldc2 dX12_next_101 wl_X12_144 ?_
          refine wa_aload_n dX12_next_104 rfl rfl ?_
          refine wa_getL (q := (RX12, TX12, 50)) (ci := 12) (k := 13) dX12_next_105 rfl (by decide) wf_X12_167 hY3.1 rfl ?_
          rw [h13]
          refine wa_lmul dX12_next_108 ?_
          refine wa_aload_n dX12_next_109 rfl rfl ?_
          refine wa_aload_n dX12_next_110 rfl rfl ?_
          refine wa_getI (q := (RX12, TX12, 50)) (ci := 12) (k := 8) dX12_next_111 rfl (by decide) wf_X12_150 hY3.1 rfl ?_
          rw [h8]
          refine wa_callV (q := (RX12, TX12, 50)) (As := [.int (nI (q + k))]) dX12_next_114 lk_X12_153 rfl rfl hY3.1 rfl rfl (Nat.le_of_ble_eq_true rfl) (Nat.le_of_eq (Nat.zero_add _)) (Nat.le_of_eq (Nat.zero_add _)) (k_X12_byteAt (q + k) (tkf_mdl hf hY) n ((tkf_i hf (by omega)).trans hn) hn3 (by omega) ?_)
          rw [tkf_by hf]
          refine wa_bipush (v := 97) dX12_next_117 (by decide) ?_
          refine wa_isub dX12_next_119 ?_
          refine wa_iconst (v := 1) dX12_next_120 (by decide) ?_
          refine wa_iadd dX12_next_121 ?_
          refine wa_i2l dX12_next_122 ?_
          refine wa_ladd dX12_next_123 ?_
          refine wa_put (q := (RX12, TX12, 50)) (ci := 12) (k := 13) dX12_next_124 rfl (by decide) wf_X12_167 rfl hY3.1 rfl ?_
          first | have h8k := ni_le (a := 8) hT97 (by omega) (by omega) | have h8k := ni_nle (a := 8) hF97 (by omega) (by omega)
          exact st1 hlt hl _ (by first | exact tkf_L hf | exact hf) h10 h9 h8 (by first | exact (mL_eq _ _ _ _).trans (by rw [Nat.min_eq_left (by omega : k ≤ 8), Nat.min_eq_left (by omega : k + 1 ≤ 8)]; rfl) | (rw [h13, Nat.min_eq_right (by omega : 8 ≤ k), Nat.min_eq_right (by omega : 8 ≤ k + 1)]))
      · have hk0 : 0 < k := Nat.pos_of_ne_zero (fun h => by subst h; exact hl hql)
        refine wa_if_eq (tgt := 143) dX12_next_91 (by decide) (fun _ => ?_) (fun h9 => absurd h9 (by decide))
        refine wa_iload_n dX12_next_143 rfl ?_
        refine wa_bipush (v := 9) dX12_next_144 (by decide) ?_
        refine wa_icmp_ge (tgt := 302) dX12_next_146 (by decide) (fun hT146 => ?_) (fun hF146 => ?_)
        · exact wa_vret dX12_next_302 rfl (hW q _ hq1 hq2 hq3 hq4 (by first | exact hf | exact tkf_I hf (by decide) (by decide)) (by first | exact h10 | exact (mI_ne _ _ _ _ _ (by decide)).trans h10) (q + k) (by omega) hk hj hl (by first | exact h9.trans (if_neg (have := ni_le (a := 9) hT146 (by omega) (by omega); by omega)).symm | exact (mI_eq _ _ _ _).trans (if_pos (have := ni_nle (a := 9) hF146 (by omega) (by omega); by omega)).symm) (by first | exact h8 | exact (mI_ne _ _ _ _ _ (by decide)).trans h8) (by rw [show q + k - q = k by omega]; exact h13))
        · refine wa_aload_n dX12_next_149 rfl rfl ?_
          refine wa_iconst (v := 2) dX12_next_150 (by decide) ?_
          refine wa_put (q := (RX12, TX12, 50)) (ci := 12) (k := 9) dX12_next_151 rfl (by decide) wf_X12_157 rfl hY3.1 rfl ?_
          refine wa_goto (tgt := 302) dX12_next_154 (by decide) ?_
          exact wa_vret dX12_next_302 rfl (hW q _ hq1 hq2 hq3 hq4 (by first | exact hf | exact tkf_I hf (by decide) (by decide)) (by first | exact h10 | exact (mI_ne _ _ _ _ _ (by decide)).trans h10) (q + k) (by omega) hk hj hl (by first | exact h9.trans (if_neg (have := ni_le (a := 9) hT146 (by omega) (by omega); by omega)).symm | exact (mI_eq _ _ _ _).trans (if_pos (have := ni_nle (a := 9) hF146 (by omega) (by omega); by omega)).symm) (by first | exact h8 | exact (mI_ne _ _ _ _ _ (by decide)).trans h8) (by rw [show q + k - q = k by omega]; exact h13))
  have lpD : ∀ (q : Nat), p ≤ q → q ≤ n → (∀ j, p ≤ j → j < q → md_by M y n j = 32) → ¬ md_by M y n q = 32 → ¬ lt_ (md_by M y n q) → dg_ (md_by M y n q) → ∀ (c : Int32) (r k : Nat) (M3 : mm_M), n - (q + k) = r → q + k ≤ n → (∀ j, q ≤ j → j < q + k → dg_ (md_by M y n j)) → tkf_ M M3 y → mm_I M3 y 10 = nI q → mm_I M3 y 9 = 0 → mm_I M3 y 8 = nI (q + k) → mm_I M3 y 12 = nv_ (md_by M y n) q (min k 3) → wa_ 0 G jX12_next (d + 1) 0 0 Q 0 0 M3 169 [some (.ref y), some (.int c), some (.int (nI k))] [] := by
    intro q hq1 hq2 hq3 hq4 hqn hql c r
    induction r using Nat.strongRecOn with
    | ind r ih =>
      intro k M3 hr hk hj hf h10 h9 h8 h13
      have hY3 := tkf_mdl hf hY
      have st1 : q + k < n → dg_ (md_by M y n (q + k)) → ∀ M4 : mm_M, tkf_ M M4 y → mm_I M4 y 10 = nI q → mm_I M4 y 9 = 0 → mm_I M4 y 8 = nI (q + k) → mm_I M4 y 12 = nv_ (md_by M y n) q (min (k + 1) 3) → wa_ 0 G jX12_next (d + 1) 0 0 Q 0 0 M4 211 [some (.ref y), some (.int c), some (.int (nI k))] [] := by
        intro hlt hl M4 hf4 g10 g9 g8 g13
        have hY4 := tkf_mdl hf4 hY
        refine wa_iinc (v := nI (k + 1)) dX12_next_211 rfl (ni_i1 k) (by decide) rfl rfl ?_
        refine wa_aload_n dX12_next_214 rfl rfl ?_
        refine wa_dup dX12_next_215 rfl ?_
        refine wa_getI (q := (RX12, TX12, 50)) (ci := 12) (k := 8) dX12_next_216 rfl (by decide) wf_X12_150 hY4.1 rfl ?_
        rw [g8]
        refine wa_iconst (v := 1) dX12_next_219 (by decide) ?_
        refine wa_iadd dX12_next_220 ?_
        rw [show nI (q + k) + 1 = nI (q + (k + 1)) from ni_i1 (q + k)]
        refine wa_put (q := (RX12, TX12, 50)) (ci := 12) (k := 8) dX12_next_221 rfl (by decide) wf_X12_150 rfl hY4.1 rfl ?_
        refine wa_goto (tgt := 169) dX12_next_224 (by decide) ?_
        exact ih (n - (q + (k + 1))) (by omega) (k + 1) _ rfl (by omega) (fun j a b => by
          by_cases hx : j < q + k
          · exact hj j a hx
          · obtain rfl : q + k = j := by omega
            exact hl) (tkf_I hf4 (by decide) (by decide)) ((mI_ne _ _ _ _ _ (by decide)).trans g10) ((mI_ne _ _ _ _ _ (by decide)).trans g9) (mI_eq _ _ _ _) ((mI_ne _ _ _ _ _ (by decide)).trans g13)
      refine wa_aload_n dX12_next_169 rfl rfl ?_
      refine wa_aload_n dX12_next_170 rfl rfl ?_
      refine wa_getI (q := (RX12, TX12, 50)) (ci := 12) (k := 8) dX12_next_171 rfl (by decide) wf_X12_150 hY3.1 rfl ?_
      rw [h8]
      refine wa_callV (q := (RX12, TX12, 50)) (As := [.int (nI (q + k))]) dX12_next_174 lk_X12_153 rfl rfl hY3.1 rfl rfl (Nat.le_of_ble_eq_true rfl) (Nat.le_of_eq (Nat.zero_add _)) (Nat.le_of_eq (Nat.zero_add _)) (k_X12_byteAt (q + k) (tkf_mdl hf hY) n ((tkf_i hf (by omega)).trans hn) hn3 (by omega) ?_)
      rw [tkf_by hf]
      refine wa_callS (As := [.int (md_by M y n (q + k))]) dX12_next_177 lk_X12_171 rfl rfl (Nat.le_of_ble_eq_true rfl) (Nat.le_of_eq (Nat.zero_add _)) (Nat.le_of_eq (Nat.zero_add _)) (k_X12_isDigit _ (fun hl => ?_) (fun hl => ?_))
      · have hlt : q + k < n := Nat.not_le.mp (fun q9 => nd ((b8 _ q9) ▸ hl))
        refine wa_if_eq (tgt := 227) dX12_next_180 (by decide) (fun h9 => absurd h9 (by decide)) (fun _ => ?_)
        refine wa_iload_n dX12_next_183 rfl ?_
        refine wa_iconst (v := 3) dX12_next_184 (by decide) ?_
        refine wa_icmp_ge (tgt := 211) dX12_next_185 (by decide) (fun hT185 => ?_) (fun hF185 => ?_)
        · first | have h3k := ni_le (a := 3) hT185 (by omega) (by omega) | have h3k := ni_nle (a := 3) hF185 (by omega) (by omega)
          exact st1 hlt hl _ (by first | exact tkf_I hf (by decide) (by decide) | exact hf) (by first | exact h10 | exact (mI_ne _ _ _ _ _ (by decide)).trans h10) (by first | exact h9 | exact (mI_ne _ _ _ _ _ (by decide)).trans h9) (by first | exact h8 | exact (mI_ne _ _ _ _ _ (by decide)).trans h8) (by first | exact (mI_eq _ _ _ _).trans (by rw [Nat.min_eq_left (by omega : k ≤ 3), Nat.min_eq_left (by omega : k + 1 ≤ 3)]; rfl) | (rw [h13, Nat.min_eq_right (by omega : 3 ≤ k), Nat.min_eq_right (by omega : 3 ≤ k + 1)]))
        · refine wa_aload_n dX12_next_188 rfl rfl ?_
          refine wa_bipush (v := 10) dX12_next_189 (by decide) ?_
          refine wa_aload_n dX12_next_191 rfl rfl ?_
          refine wa_getI (q := (RX12, TX12, 50)) (ci := 12) (k := 12) dX12_next_192 rfl (by decide) wf_X12_174 hY3.1 rfl ?_
          rw [h13]
          refine wa_imul dX12_next_195 ?_
          refine wa_aload_n dX12_next_196 rfl rfl ?_
          refine wa_aload_n dX12_next_197 rfl rfl ?_
          refine wa_getI (q := (RX12, TX12, 50)) (ci := 12) (k := 8) dX12_next_198 rfl (by decide) wf_X12_150 hY3.1 rfl ?_
          rw [h8]
          refine wa_callV (q := (RX12, TX12, 50)) (As := [.int (nI (q + k))]) dX12_next_201 lk_X12_153 rfl rfl hY3.1 rfl rfl (Nat.le_of_ble_eq_true rfl) (Nat.le_of_eq (Nat.zero_add _)) (Nat.le_of_eq (Nat.zero_add _)) (k_X12_byteAt (q + k) (tkf_mdl hf hY) n ((tkf_i hf (by omega)).trans hn) hn3 (by omega) ?_)
          rw [tkf_by hf]
          refine wa_iadd dX12_next_204 ?_
          refine wa_bipush (v := 48) dX12_next_205 (by decide) ?_
          refine wa_isub dX12_next_207 ?_
          refine wa_put (q := (RX12, TX12, 50)) (ci := 12) (k := 12) dX12_next_208 rfl (by decide) wf_X12_174 rfl hY3.1 rfl ?_
          first | have h3k := ni_le (a := 3) hT185 (by omega) (by omega) | have h3k := ni_nle (a := 3) hF185 (by omega) (by omega)
          exact st1 hlt hl _ (by first | exact tkf_I hf (by decide) (by decide) | exact hf) (by first | exact h10 | exact (mI_ne _ _ _ _ _ (by decide)).trans h10) (by first | exact h9 | exact (mI_ne _ _ _ _ _ (by decide)).trans h9) (by first | exact h8 | exact (mI_ne _ _ _ _ _ (by decide)).trans h8) (by first | exact (mI_eq _ _ _ _).trans (by rw [Nat.min_eq_left (by omega : k ≤ 3), Nat.min_eq_left (by omega : k + 1 ≤ 3)]; rfl) | (rw [h13, Nat.min_eq_right (by omega : 3 ≤ k), Nat.min_eq_right (by omega : 3 ≤ k + 1)]))
      · have hk0 : 0 < k := Nat.pos_of_ne_zero (fun h => by subst h; exact hl hql)
        refine wa_if_eq (tgt := 227) dX12_next_180 (by decide) (fun _ => ?_) (fun h9 => absurd h9 (by decide))
        refine wa_iload_n dX12_next_227 rfl ?_
        refine wa_iconst (v := 4) dX12_next_228 (by decide) ?_
        refine wa_icmp_ge (tgt := 302) dX12_next_229 (by decide) (fun hT229 => ?_) (fun hF229 => ?_)
        · 
          exact wa_vret dX12_next_302 rfl (hN q _ hq1 hq2 hq3 hq4 (by first | exact hf | exact tkf_I hf (by decide) (by decide)) (by first | exact h10 | exact (mI_ne _ _ _ _ _ (by decide)).trans h10) hqn (q + k) (by omega) hk hj hl (by first | exact h9.trans (if_neg (have := ni_le (a := 4) hT229 (by omega) (by omega); by omega)).symm | exact (mI_eq _ _ _ _).trans (if_pos (have := ni_nle (a := 4) hF229 (by omega) (by omega); by omega)).symm) (by first | exact h8 | exact (mI_ne _ _ _ _ _ (by decide)).trans h8) (by rw [show q + k - q = k by omega]; first | exact h13 | exact (mI_ne _ _ _ _ _ (by decide)).trans h13))
        · refine wa_aload_n dX12_next_232 rfl rfl ?_
          refine wa_iconst (v := 3) dX12_next_233 (by decide) ?_
          refine wa_put (q := (RX12, TX12, 50)) (ci := 12) (k := 9) dX12_next_234 rfl (by decide) wf_X12_157 rfl hY3.1 rfl ?_
          refine wa_goto (tgt := 302) dX12_next_237 (by decide) ?_
          
          exact wa_vret dX12_next_302 rfl (hN q _ hq1 hq2 hq3 hq4 (by first | exact hf | exact tkf_I hf (by decide) (by decide)) (by first | exact h10 | exact (mI_ne _ _ _ _ _ (by decide)).trans h10) hqn (q + k) (by omega) hk hj hl (by first | exact h9.trans (if_neg (have := ni_le (a := 4) hT229 (by omega) (by omega); by omega)).symm | exact (mI_eq _ _ _ _).trans (if_pos (have := ni_nle (a := 4) hF229 (by omega) (by omega); by omega)).symm) (by first | exact h8 | exact (mI_ne _ _ _ _ _ (by decide)).trans h8) (by rw [show q + k - q = k by omega]; first | exact h13 | exact (mI_ne _ _ _ _ _ (by decide)).trans h13))
  have ph2 : ∀ (q : Nat) (M3 : mm_M), p ≤ q → q ≤ n → (∀ j, p ≤ j → j < q → md_by M y n j = 32) → ¬ md_by M y n q = 32 → tkf_ M M3 y → mm_I M3 y 10 = nI q → mm_I M3 y 9 = 0 → mm_I M3 y 8 = nI q → wa_ 0 G jX12_next (d + 1) 0 0 Q 0 0 M3 44 [some (.ref y), none, none] [] := by
    intro q M3 hq1 hq2 hq3 hq4 hf h10 h9 h8
    have hY3 := tkf_mdl hf hY
    have sgn : ¬ lt_ (md_by M y n q) → ¬ dg_ (md_by M y n q) → sg_ (md_by M y n q) → wa_ 0 G jX12_next (d + 1) 0 0 Q 0 0 M3 282 [some (.ref y), some (.int (md_by M y n q)), some (.int 0)] [] := by
      intro hl hdg hs
      refine wa_aload_n dX12_next_282 rfl rfl ?_
      refine wa_iconst (v := 4) dX12_next_283 (by decide) ?_
      refine wa_put (q := (RX12, TX12, 50)) (ci := 12) (k := 9) dX12_next_284 rfl (by decide) wf_X12_157 rfl hY3.1 rfl ?_
      refine wa_aload_n dX12_next_287 rfl rfl ?_
      refine wa_iload_n dX12_next_288 rfl ?_
      refine wa_put (q := (RX12, TX12, 50)) (ci := 12) (k := 11) dX12_next_289 rfl (by decide) wf_X12_160 rfl hY3.1 rfl ?_
      refine wa_aload_n dX12_next_292 rfl rfl ?_
      refine wa_dup dX12_next_293 rfl ?_
      refine wa_getI (q := (RX12, TX12, 50)) (ci := 12) (k := 8) dX12_next_294 rfl (by decide) wf_X12_150 hY3.1 rfl ?_
      rw [show mm_I (mm_put (mm_put M3 y 9 (.int 4)) y 11 (.int (md_by M y n q))) y 8 = nI q by simp [mm_put, mm_I_sI, h8]]
      refine wa_iconst (v := 1) dX12_next_297 (by decide) ?_
      refine wa_iadd dX12_next_298 ?_
      rw [show nI q + 1 = nI (q + 1) from ni_i1 q]
      refine wa_put (q := (RX12, TX12, 50)) (ci := 12) (k := 8) dX12_next_299 rfl (by decide) wf_X12_150 rfl hY3.1 rfl ?_
      exact wa_vret dX12_next_302 rfl (hS q _ hq1 hq2 hq3 hq4 (tkf_I (tkf_I (tkf_I hf (by decide) (by decide)) (by decide) (by decide)) (by decide) (by decide)) (by simp [mm_put, mm_I_sI, h10]) hl hdg hs (by simp [mm_put, mm_I_sI]) (by simp [mm_put, mm_I_sI]) (by simp [mm_put, mm_I_sI]))
    refine wa_aload_n dX12_next_44 rfl rfl ?_
    refine wa_aload_n dX12_next_45 rfl rfl ?_
    refine wa_getI (q := (RX12, TX12, 50)) (ci := 12) (k := 8) dX12_next_46 rfl (by decide) wf_X12_150 hY3.1 rfl ?_
    rw [h8]
    refine wa_callV (q := (RX12, TX12, 50)) (As := [.int (nI (q))]) dX12_next_49 lk_X12_153 rfl rfl hY3.1 rfl rfl (Nat.le_of_ble_eq_true rfl) (Nat.le_of_eq (Nat.zero_add _)) (Nat.le_of_eq (Nat.zero_add _)) (k_X12_byteAt (q) (tkf_mdl hf hY) n ((tkf_i hf (by omega)).trans hn) hn3 (by omega) ?_)
    rw [tkf_by hf]
    refine wa_istore_n dX12_next_52 (by decide) rfl rfl ?_
    refine wa_iconst (v := 0) dX12_next_53 (by decide) ?_
    refine wa_istore_n dX12_next_54 (by decide) rfl rfl ?_
    refine wa_iload_n dX12_next_55 rfl ?_
    refine wa_iconst (v := -1) dX12_next_56 (by decide) ?_
    refine wa_icmp_ne (tgt := 68) dX12_next_57 (by decide) (fun hT57 => ?_) (fun hF57 => ?_)
    · refine wa_iload_n dX12_next_68 rfl ?_
      refine wa_callS (As := [.int (md_by M y n q)]) dX12_next_69 lk_X12_163 rfl rfl (Nat.le_of_ble_eq_true rfl) (Nat.le_of_eq (Nat.zero_add _)) (Nat.le_of_eq (Nat.zero_add _)) (k_X12_isLetter _ (fun hl => ?_) (fun hl => ?_))
      · refine wa_if_eq (tgt := 157) dX12_next_72 (by decide) (fun h9 => absurd h9 (by decide)) (fun _ => ?_)
        refine wa_aload_n dX12_next_75 rfl rfl ?_
        refine wa_lconst (v := 0) dX12_next_76 (by decide) ?_
        refine wa_put (q := (RX12, TX12, 50)) (ci := 12) (k := 13) dX12_next_77 rfl (by decide) wf_X12_167 rfl hY3.1 rfl ?_
        exact lpW q hq1 hq2 hq3 hq4 hl _ _ 0 _ rfl (by omega) (fun j a b => absurd b (by omega)) (tkf_L hf) h10 h9 h8 (mL_eq _ _ _ _)
      · refine wa_if_eq (tgt := 157) dX12_next_72 (by decide) (fun _ => ?_) (fun h9 => absurd h9 (by decide))
        refine wa_iload_n dX12_next_157 rfl ?_
        refine wa_callS (As := [.int (md_by M y n q)]) dX12_next_158 lk_X12_171 rfl rfl (Nat.le_of_ble_eq_true rfl) (Nat.le_of_eq (Nat.zero_add _)) (Nat.le_of_eq (Nat.zero_add _)) (k_X12_isDigit _ (fun hdg => ?_) (fun hdg => ?_))
        · refine wa_if_eq (tgt := 240) dX12_next_161 (by decide) (fun h9 => absurd h9 (by decide)) (fun _ => ?_)
          refine wa_aload_n dX12_next_164 rfl rfl ?_
          refine wa_iconst (v := 0) dX12_next_165 (by decide) ?_
          refine wa_put (q := (RX12, TX12, 50)) (ci := 12) (k := 12) dX12_next_166 rfl (by decide) wf_X12_174 rfl hY3.1 rfl ?_
          exact lpD q hq1 hq2 hq3 hq4 hl hdg _ _ 0 _ rfl (by omega) (fun j a b => absurd b (by omega)) (tkf_I hf (by decide) (by decide)) ((mI_ne _ _ _ _ _ (by decide)).trans h10) ((mI_ne _ _ _ _ _ (by decide)).trans h9) ((mI_ne _ _ _ _ _ (by decide)).trans h8) (mI_eq _ _ _ _)
        · refine wa_if_eq (tgt := 240) dX12_next_161 (by decide) (fun _ => ?_) (fun h9 => absurd h9 (by decide))
          refine wa_iload_n dX12_next_240 rfl ?_
          refine wa_bipush (v := 60) dX12_next_241 (by decide) ?_
          refine wa_icmp_eq (tgt := 282) dX12_next_243 (by decide) (fun hT243 => ?_) (fun hF243 => ?_)
          · exact sgn hl hdg (by unfold sg_; simp_all)
          · refine wa_iload_n dX12_next_246 rfl ?_
            refine wa_bipush (v := 62) dX12_next_247 (by decide) ?_
            refine wa_icmp_eq (tgt := 282) dX12_next_249 (by decide) (fun hT249 => ?_) (fun hF249 => ?_)
            · exact sgn hl hdg (by unfold sg_; simp_all)
            · refine wa_iload_n dX12_next_252 rfl ?_
              refine wa_bipush (v := 61) dX12_next_253 (by decide) ?_
              refine wa_icmp_eq (tgt := 282) dX12_next_255 (by decide) (fun hT255 => ?_) (fun hF255 => ?_)
              · exact sgn hl hdg (by unfold sg_; simp_all)
              · refine wa_iload_n dX12_next_258 rfl ?_
                refine wa_bipush (v := 43) dX12_next_259 (by decide) ?_
                refine wa_icmp_eq (tgt := 282) dX12_next_261 (by decide) (fun hT261 => ?_) (fun hF261 => ?_)
                · exact sgn hl hdg (by unfold sg_; simp_all)
                · refine wa_iload_n dX12_next_264 rfl ?_
                  refine wa_bipush (v := 42) dX12_next_265 (by decide) ?_
                  refine wa_icmp_eq (tgt := 282) dX12_next_267 (by decide) (fun hT267 => ?_) (fun hF267 => ?_)
                  · exact sgn hl hdg (by unfold sg_; simp_all)
                  · refine wa_iload_n dX12_next_270 rfl ?_
                    refine wa_bipush (v := 47) dX12_next_271 (by decide) ?_
                    refine wa_icmp_eq (tgt := 282) dX12_next_273 (by decide) (fun hT273 => ?_) (fun hF273 => ?_)
                    · exact sgn hl hdg (by unfold sg_; simp_all)
                    · refine wa_iload_n dX12_next_276 rfl ?_
                      refine wa_bipush (v := 59) dX12_next_277 (by decide) ?_
                      refine wa_icmp_ne (tgt := 302) dX12_next_279 (by decide) (fun hT279 => ?_) (fun hF279 => ?_)
                      · exact wa_vret dX12_next_302 rfl (by first | exact hE q _ hq1 hq2 hq3 hq4 (tkf_I hf (by decide) (by decide)) ((mI_ne _ _ _ _ _ (by decide)).trans h10) hF57 (mI_eq _ _ _ _) ((mI_ne _ _ _ _ _ (by decide)).trans h8) | exact hB q _ hq1 hq2 hq3 hq4 hf h10 hT57 hl hdg (by unfold sg_; simp_all) h9)
                      · exact sgn hl hdg (by unfold sg_; simp_all)
    · refine wa_aload_n dX12_next_60 rfl rfl ?_
      refine wa_iconst (v := 1) dX12_next_61 (by decide) ?_
      refine wa_put (q := (RX12, TX12, 50)) (ci := 12) (k := 9) dX12_next_62 rfl (by decide) wf_X12_157 rfl hY3.1 rfl ?_
      refine wa_goto (tgt := 302) dX12_next_65 (by decide) ?_
      exact wa_vret dX12_next_302 rfl (by first | exact hE q _ hq1 hq2 hq3 hq4 (tkf_I hf (by decide) (by decide)) ((mI_ne _ _ _ _ _ (by decide)).trans h10) hF57 (mI_eq _ _ _ _) ((mI_ne _ _ _ _ _ (by decide)).trans h8) | exact hB q _ hq1 hq2 hq3 hq4 hf h10 hT57 hl hdg (by unfold sg_; simp_all) h9)
  have lp1 : ∀ (r q : Nat) (M3 : mm_M), n - q = r → p ≤ q → q ≤ n → (∀ j, p ≤ j → j < q → md_by M y n j = 32) → tkf_ M M3 y → mm_I M3 y 8 = nI q → wa_ 0 G jX12_next (d + 1) 0 0 Q 0 0 M3 0 [some (.ref y), none, none] [] := by
    intro r
    induction r using Nat.strongRecOn with
    | ind r ih =>
      intro q M3 hr hq1 hq2 hq3 hf h8
      have hY3 := tkf_mdl hf hY
      refine wa_aload_n dX12_next_0 rfl rfl ?_
      refine wa_aload_n dX12_next_1 rfl rfl ?_
      refine wa_getI (q := (RX12, TX12, 50)) (ci := 12) (k := 8) dX12_next_2 rfl (by decide) wf_X12_150 hY3.1 rfl ?_
      rw [h8]
      refine wa_callV (q := (RX12, TX12, 50)) (As := [.int (nI (q))]) dX12_next_5 lk_X12_153 rfl rfl hY3.1 rfl rfl (Nat.le_of_ble_eq_true rfl) (Nat.le_of_eq (Nat.zero_add _)) (Nat.le_of_eq (Nat.zero_add _)) (k_X12_byteAt (q) (tkf_mdl hf hY) n ((tkf_i hf (by omega)).trans hn) hn3 (by omega) ?_)
      rw [tkf_by hf]
      refine wa_bipush (v := 32) dX12_next_8 (by decide) ?_
      refine wa_icmp_ne (tgt := 26) dX12_next_10 (by decide) (fun hT10 => ?_) (fun hF10 => ?_)
      · refine wa_aload_n dX12_next_26 rfl rfl ?_
        refine wa_aload_n dX12_next_27 rfl rfl ?_
        refine wa_getI (q := (RX12, TX12, 50)) (ci := 12) (k := 8) dX12_next_28 rfl (by decide) wf_X12_150 hY3.1 rfl ?_
        rw [h8]
        refine wa_put (q := (RX12, TX12, 50)) (ci := 12) (k := 10) dX12_next_31 rfl (by decide) wf_X12_131 rfl hY3.1 rfl ?_
        refine wa_aload_n dX12_next_34 rfl rfl ?_
        refine wa_iconst (v := 0) dX12_next_35 (by decide) ?_
        refine wa_put (q := (RX12, TX12, 50)) (ci := 12) (k := 9) dX12_next_36 rfl (by decide) wf_X12_157 rfl hY3.1 rfl ?_
        refine wa_aload_n dX12_next_39 rfl rfl ?_
        refine wa_iconst (v := 0) dX12_next_40 (by decide) ?_
        refine wa_put (q := (RX12, TX12, 50)) (ci := 12) (k := 11) dX12_next_41 rfl (by decide) wf_X12_160 rfl hY3.1 rfl ?_
        exact ph2 q _ hq1 hq2 hq3 hT10 (tkf_I (tkf_I (tkf_I hf (by decide) (by decide)) (by decide) (by decide)) (by decide) (by decide)) (by simp [mm_put, mm_I_sI]) (by simp [mm_put, mm_I_sI]) (by simp [mm_put, mm_I_sI, h8])
      · refine wa_aload_n dX12_next_13 rfl rfl ?_
        refine wa_dup dX12_next_14 rfl ?_
        refine wa_getI (q := (RX12, TX12, 50)) (ci := 12) (k := 8) dX12_next_15 rfl (by decide) wf_X12_150 hY3.1 rfl ?_
        rw [h8]
        refine wa_iconst (v := 1) dX12_next_18 (by decide) ?_
        refine wa_iadd dX12_next_19 ?_
        rw [show nI q + 1 = nI (q + 1) from ni_i1 q]
        refine wa_put (q := (RX12, TX12, 50)) (ci := 12) (k := 8) dX12_next_20 rfl (by decide) wf_X12_150 rfl hY3.1 rfl ?_
        refine wa_goto (tgt := 0) dX12_next_23 (by decide) ?_
        have hlt : q < n := Nat.not_le.mp (fun q9 => by rw [b8 _ q9] at hF10; exact absurd hF10 (by decide))
        exact ih (n - (q + 1)) (by omega) (q + 1) _ rfl (by omega) (by omega) (fun j a b => by
          by_cases hx : j < q
          · exact hq3 j a hx
          · obtain rfl : q = j := by omega
            exact hF10) (tkf_I hf (by decide) (by decide)) (mI_eq _ _ _ _)
  exact lp1 _ p M rfl (Nat.le_refl _) hpn (fun j a b => absurd b (by omega)) (tkf_rf M y) hp
