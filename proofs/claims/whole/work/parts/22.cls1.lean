/-! the class: its cells -/
def prt_ (M : mm_M) (y : Nat) : Prop := mm_sh M y = some (.inl 3) ∧ mm_R M y 2 = some (y + 1) ∧ mm_sh M (y + 1) = some (.inr (0, 5)) ∧ mm_R M y 3 = some (y + 2) ∧ mm_sh M (y + 2) = some (.inr (0, 30)) ∧ mm_R M y 4 = some (y + 3) ∧ mm_sh M (y + 3) = some (.inr (2, 30))
theorem prt_r2 {M : mm_M} {y : Nat} (h : prt_ M y) : va_rf (mm_R M y 2) = .ref (y + 1) := by rw [h.2.1]; rfl
theorem prt_s2 {M : mm_M} {y : Nat} (h : prt_ M y) : mm_sh M (y + 1) = some (.inr (0, 5)) := h.2.2.1
theorem prt_r3 {M : mm_M} {y : Nat} (h : prt_ M y) : va_rf (mm_R M y 3) = .ref (y + 2) := by rw [h.2.2.2.1]; rfl
theorem prt_s3 {M : mm_M} {y : Nat} (h : prt_ M y) : mm_sh M (y + 2) = some (.inr (0, 30)) := h.2.2.2.2.1
theorem prt_r4 {M : mm_M} {y : Nat} (h : prt_ M y) : va_rf (mm_R M y 4) = .ref (y + 3) := by rw [h.2.2.2.2.2.1]; rfl
theorem prt_s4 {M : mm_M} {y : Nat} (h : prt_ M y) : mm_sh M (y + 3) = some (.inr (2, 30)) := h.2.2.2.2.2.2
def tap_ (M : mm_M) (y : Nat) : Prop := mm_sh M y = some (.inl 5) ∧ mm_R M y 0 = some (y + 1) ∧ mm_sh M (y + 1) = some (.inr (0, 300))
theorem tap_r0 {M : mm_M} {y : Nat} (h : tap_ M y) : va_rf (mm_R M y 0) = .ref (y + 1) := by rw [h.2.1]; rfl
theorem tap_s0 {M : mm_M} {y : Nat} (h : tap_ M y) : mm_sh M (y + 1) = some (.inr (0, 300)) := h.2.2
def tok_ (M : mm_M) (y : Nat) : Prop := mm_sh M y = some (.inl 9) ∧ mm_R M y 0 = some (y + 1) ∧ mm_sh M (y + 1) = some (.inr (0, 301)) ∧ mm_R M y 1 = some (y + 2) ∧ mm_sh M (y + 2) = some (.inr (0, 301)) ∧ mm_R M y 2 = some (y + 3) ∧ mm_sh M (y + 3) = some (.inr (0, 301))
theorem tok_r0 {M : mm_M} {y : Nat} (h : tok_ M y) : va_rf (mm_R M y 0) = .ref (y + 1) := by rw [h.2.1]; rfl
theorem tok_s0 {M : mm_M} {y : Nat} (h : tok_ M y) : mm_sh M (y + 1) = some (.inr (0, 301)) := h.2.2.1
theorem tok_r1 {M : mm_M} {y : Nat} (h : tok_ M y) : va_rf (mm_R M y 1) = .ref (y + 2) := by rw [h.2.2.2.1]; rfl
theorem tok_s1 {M : mm_M} {y : Nat} (h : tok_ M y) : mm_sh M (y + 2) = some (.inr (0, 301)) := h.2.2.2.2.1
theorem tok_r2 {M : mm_M} {y : Nat} (h : tok_ M y) : va_rf (mm_R M y 2) = .ref (y + 3) := by rw [h.2.2.2.2.2.1]; rfl
theorem tok_s2 {M : mm_M} {y : Nat} (h : tok_ M y) : mm_sh M (y + 3) = some (.inr (0, 301)) := h.2.2.2.2.2.2
def lin_ (M : mm_M) (y : Nat) : Prop := mm_sh M y = some (.inl 1) ∧ mm_R M y 1 = some (y + 1) ∧ mm_sh M (y + 1) = some (.inr (9, 4)) ∧ mm_R M y 2 = some (y + 2) ∧ mm_sh M (y + 2) = some (.inr (8, 4))
theorem lin_r1 {M : mm_M} {y : Nat} (h : lin_ M y) : va_rf (mm_R M y 1) = .ref (y + 1) := by rw [h.2.1]; rfl
theorem lin_s1 {M : mm_M} {y : Nat} (h : lin_ M y) : mm_sh M (y + 1) = some (.inr (9, 4)) := h.2.2.1
theorem lin_r2 {M : mm_M} {y : Nat} (h : lin_ M y) : va_rf (mm_R M y 2) = .ref (y + 2) := by rw [h.2.2.2.1]; rfl
theorem lin_s2 {M : mm_M} {y : Nat} (h : lin_ M y) : mm_sh M (y + 2) = some (.inr (8, 4)) := h.2.2.2.2

def ab_ (x : Int32) : Int32 := if 0 < x then (x + 30 - 1) / 30 else 0

theorem k_X10_accountsBelow {G : mm_G} {d : Nat} {Q : Option Value → mm_M → Prop} {M : mm_M} (x : Int32) (hQ : Q (some (.int (ab_ x))) M) : ma_ G jX10_accountsBelow d 0 0 [.int x] M Q := by
  refine ma_of [some (.int x)] (by decide) rfl (Nat.le_of_ble_eq_true rfl) ?_
  refine wa_iload_n dX10_accountsBelow_0 rfl ?_
  refine wa_if_gt (tgt := 8) dX10_accountsBelow_1 (by decide) (fun hT1 => ?_) (fun hF1 => ?_)
  · refine wa_iload_n dX10_accountsBelow_8 rfl ?_
    refine wa_bipush (v := 30) dX10_accountsBelow_9 (by decide) ?_
    refine wa_iadd dX10_accountsBelow_11 ?_
    refine wa_iconst (v := 1) dX10_accountsBelow_12 (by decide) ?_
    refine wa_isub dX10_accountsBelow_13 ?_
    refine wa_bipush (v := 30) dX10_accountsBelow_14 (by decide) ?_
    refine wa_idiv dX10_accountsBelow_16 (by decide) ?_
    exact wa_iret dX10_accountsBelow_17 rfl (by unfold ab_ at hQ; first | (rw [if_pos (by assumption)] at hQ; exact hQ) | (rw [if_neg (by assumption)] at hQ; exact hQ))
  · refine wa_iconst (v := 0) dX10_accountsBelow_4 (by decide) ?_
    refine wa_goto (tgt := 17) dX10_accountsBelow_5 (by decide) ?_
    exact wa_iret dX10_accountsBelow_17 rfl (by unfold ab_ at hQ; first | (rw [if_pos (by assumption)] at hQ; exact hQ) | (rw [if_neg (by assumption)] at hQ; exact hQ))

theorem k_X3_wasSent {G : mm_G} {d : Nat} {Q : Option Value → mm_M → Prop} {M : mm_M} {p : Nat} (k : Int32) (n : Nat) (hp : prt_ M p) (hS : mm_I M p 5 = nI n) (hn : n ≤ 30) (h1 : ∀ j : Nat, k = nI j → j < n → Q (some (.int 1)) M) (h0 : k < 0 ∨ nI n ≤ k → Q (some (.int 0)) M) : ma_ G jX3_wasSent d 0 0 [.ref p, .int k] M Q := by
  refine ma_of [some (.ref p), some (.int k)] (by decide) rfl (Nat.le_of_ble_eq_true rfl) ?_
  refine wa_iload_n dX3_wasSent_0 rfl ?_
  refine wa_if_lt (tgt := 34) dX3_wasSent_1 (by decide) (fun hT1 => ?_) (fun hF1 => ?_)
  · refine wa_iconst (v := 0) dX3_wasSent_34 (by decide) ?_
    exact wa_zret dX3_wasSent_35 rfl rfl (h0 (by first | exact Or.inl (by assumption) | exact Or.inr (by assumption)))
  · refine wa_iload_n dX3_wasSent_4 rfl ?_
    refine wa_aload_n dX3_wasSent_5 rfl rfl ?_
    refine wa_getI (q := (RX3, TX3, 8)) (ci := 3) (k := 5) dX3_wasSent_6 rfl (by decide) wf_X3_25 hp.1 rfl ?_
    rw [hS]
    refine wa_icmp_ge (tgt := 34) dX3_wasSent_9 (by decide) (fun hT9 => ?_) (fun hF9 => ?_)
    · refine wa_iconst (v := 0) dX3_wasSent_34 (by decide) ?_
      exact wa_zret dX3_wasSent_35 rfl rfl (h0 (by first | exact Or.inl (by assumption) | exact Or.inr (by assumption)))
    · obtain ⟨j, hj, rfl⟩ := ix_of hF1 hF9 (by omega)
      refine wa_iload_n dX3_wasSent_12 rfl ?_
      refine wa_aload_n dX3_wasSent_13 rfl rfl ?_
      refine wa_getR (q := (RX3, TX3, 8)) (ci := 3) (k := 3) dX3_wasSent_14 rfl (by decide) wf_X3_18 hp.1 rfl (prt_r3 hp) ?_
      refine wa_alen dX3_wasSent_17 (prt_s3 hp) ?_
      refine wa_icmp_ge (tgt := 34) dX3_wasSent_18 (by decide) (fun hT18 => absurd hT18 (nI_ge (b := 30) (by omega) (by decide))) (fun hF18 => ?_)
      refine wa_iload_n dX3_wasSent_21 rfl ?_
      refine wa_aload_n dX3_wasSent_22 rfl rfl ?_
      refine wa_getR (q := (RX3, TX3, 8)) (ci := 3) (k := 4) dX3_wasSent_23 rfl (by decide) wf_X3_21 hp.1 rfl (prt_r4 hp) ?_
      refine wa_alen dX3_wasSent_26 (prt_s4 hp) ?_
      refine wa_icmp_ge (tgt := 34) dX3_wasSent_27 (by decide) (fun hT27 => absurd hT27 (nI_ge (b := 30) (by omega) (by decide))) (fun hF27 => ?_)
      refine wa_iconst (v := 1) dX3_wasSent_30 (by decide) ?_
      refine wa_goto (tgt := 35) dX3_wasSent_31 (by decide) ?_
      exact wa_zret dX3_wasSent_35 rfl rfl (h1 j rfl hj)

/-- the next that isn't lost, if it has come -/
def pg_ (M : mm_M) (p : Nat) (td : Int32) : Nat → Nat → Int32
  | 0, _ => -2
  | r + 1, g => if mm_I M (p + 3) g = 0 then (if mm_I M (p + 2) g ≤ td then mm_I M (p + 2) g else -2) else pg_ M p td r (g + 1)
def pa_ (M : mm_M) (p n : Nat) (td : Int32) (k : Nat) : Int32 := if mm_I M (p + 3) k = 0 then -2 else pg_ M p td (n - (k + 1)) (k + 1)
def pd_ (x td : Int32) : Int32 := if x ≤ td then x else -2
def pc_ (M : mm_M) (p n : Nat) (td : Int32) (k : Nat) : Int32 := if mm_I M (p + 3) k = 0 then pd_ (mm_I M (p + 2) k) td else if pa_ M p n td k = -2 then -2 else pd_ (pa_ M p n td k + 2 * mm_I M p 0) td

theorem k_X3_askDay {G : mm_G} {d : Nat} {Q : Option Value → mm_M → Prop} {M : mm_M} {p : Nat} (k : Nat) (td : Int32) (n : Nat) (hp : prt_ M p) (hS : mm_I M p 5 = nI n) (hn : n ≤ 30) (hk : k < n) (hQ : Q (some (.int (pa_ M p n td k))) M) : ma_ G jX3_askDay (d + 1) 0 0 [.ref p, .int (nI k), .int td] M Q := by
  refine ma_of [some (.ref p), some (.int (nI k)), some (.int td), none] (by decide) rfl (Nat.le_of_ble_eq_true rfl) ?_
  have lp : ∀ (r g : Nat), n - g = r → g ≤ n → Q (some (.int (pg_ M p td r g))) M → wa_ 0 G jX3_askDay (d + 1) 0 0 Q 0 0 M 24 [some (.ref p), some (.int (nI k)), some (.int td), some (.int (nI g))] [] := by
    intro r
    induction r with
    | zero =>
      intro g hr hg hq
      have hgn : g = n := by omega
      subst hgn
      refine wa_iload_n dX3_askDay_24 rfl ?_
      refine wa_aload_n dX3_askDay_25 rfl rfl ?_
      refine wa_getI (q := (RX3, TX3, 8)) (ci := 3) (k := 5) dX3_askDay_26 rfl (by decide) wf_X3_25 hp.1 rfl ?_
      rw [hS]
      refine wa_icmp_ge (tgt := 77) dX3_askDay_29 (by decide) (fun hT29 => ?_) (fun hF29 => absurd (nI_le (Nat.le_refl _) (by omega)) hF29)
      refine wa_bipush (v := -2) dX3_askDay_77 (by decide) ?_
      exact wa_iret dX3_askDay_79 rfl (hq)
    | succ r ih =>
      intro g hr hg hq
      simp only [pg_] at hq
      refine wa_iload_n dX3_askDay_24 rfl ?_
      refine wa_aload_n dX3_askDay_25 rfl rfl ?_
      refine wa_getI (q := (RX3, TX3, 8)) (ci := 3) (k := 5) dX3_askDay_26 rfl (by decide) wf_X3_25 hp.1 rfl ?_
      rw [hS]
      refine wa_icmp_ge (tgt := 77) dX3_askDay_29 (by decide) (fun hT29 => absurd hT29 (nI_ge (by omega) (by omega))) (fun hF29 => ?_)
      refine wa_aload_n dX3_askDay_32 rfl rfl ?_
      refine wa_iload_n dX3_askDay_33 rfl ?_
      refine wa_callV (q := (RX3, TX3, 8)) (As := [.int (nI g)]) dX3_askDay_34 lk_X3_41 rfl rfl hp.1 rfl rfl (Nat.le_of_ble_eq_true rfl) (Nat.le_of_eq (Nat.zero_add _)) (Nat.le_of_eq (Nat.zero_add _)) (k_X3_wasSent (nI g) n hp hS hn (fun j9 e9 h9 => ?_) (fun q9 => absurd q9 (by rintro (z | z) <;> first | exact nI_pos (by omega) z | exact nI_ge (by omega) (by omega) z)))
      refine wa_if_eq (tgt := 71) dX3_askDay_37 (by decide) (fun h9 => absurd h9 (by decide)) (fun _ => ?_)
      refine wa_aload_n dX3_askDay_40 rfl rfl ?_
      refine wa_getR (q := (RX3, TX3, 8)) (ci := 3) (k := 4) dX3_askDay_41 rfl (by decide) wf_X3_21 hp.1 rfl (prt_r4 hp) ?_
      refine wa_iload_n dX3_askDay_44 rfl ?_
      refine wa_baldN dX3_askDay_45 (prt_s4 hp) (Or.inr rfl) (by omega) (by decide) ?_
      refine wa_if_ne (tgt := 71) dX3_askDay_46 (by decide) (fun hT46 => ?_) (fun hF46 => ?_)
      · refine wa_iinc (v := nI (g + 1)) dX3_askDay_71 rfl (ni_i1 g) (by decide) rfl rfl ?_
        refine wa_goto (tgt := 24) dX3_askDay_74 (by decide) ?_
        exact ih (g + 1) (by omega) (by omega) (by rw [if_neg hT46] at hq; exact hq)
      · refine wa_aload_n dX3_askDay_49 rfl rfl ?_
        refine wa_getR (q := (RX3, TX3, 8)) (ci := 3) (k := 3) dX3_askDay_50 rfl (by decide) wf_X3_18 hp.1 rfl (prt_r3 hp) ?_
        refine wa_iload_n dX3_askDay_53 rfl ?_
        refine wa_ialdN dX3_askDay_54 (prt_s3 hp) (Or.inl rfl) (by omega) (by decide) ?_
        refine wa_iload_n dX3_askDay_55 rfl ?_
        refine wa_icmp_gt (tgt := 68) dX3_askDay_56 (by decide) (fun hT56 => ?_) (fun hF56 => ?_)
        · refine wa_bipush (v := -2) dX3_askDay_68 (by decide) ?_
          exact wa_iret dX3_askDay_70 rfl (by rw [if_pos hF46] at hq; first | (rw [if_pos (Int32.not_lt.mp (by assumption))] at hq; exact hq) | (rw [if_neg (Int32.not_le.mpr (by assumption))] at hq; exact hq))
        · refine wa_aload_n dX3_askDay_59 rfl rfl ?_
          refine wa_getR (q := (RX3, TX3, 8)) (ci := 3) (k := 3) dX3_askDay_60 rfl (by decide) wf_X3_18 hp.1 rfl (prt_r3 hp) ?_
          refine wa_iload_n dX3_askDay_63 rfl ?_
          refine wa_ialdN dX3_askDay_64 (prt_s3 hp) (Or.inl rfl) (by omega) (by decide) ?_
          refine wa_goto (tgt := 70) dX3_askDay_65 (by decide) ?_
          exact wa_iret dX3_askDay_70 rfl (by rw [if_pos hF46] at hq; first | (rw [if_pos (Int32.not_lt.mp (by assumption))] at hq; exact hq) | (rw [if_neg (Int32.not_le.mpr (by assumption))] at hq; exact hq))
  refine wa_aload_n dX3_askDay_0 rfl rfl ?_
  refine wa_iload_n dX3_askDay_1 rfl ?_
  refine wa_callV (q := (RX3, TX3, 8)) (As := [.int (nI k)]) dX3_askDay_2 lk_X3_41 rfl rfl hp.1 rfl rfl (Nat.le_of_ble_eq_true rfl) (Nat.le_of_eq (Nat.zero_add _)) (Nat.le_of_eq (Nat.zero_add _)) (k_X3_wasSent (nI k) n hp hS hn (fun j9 e9 h9 => ?_) (fun q9 => absurd q9 (by rintro (z | z) <;> first | exact nI_pos (by omega) z | exact nI_ge (by omega) (by omega) z)))
  refine wa_if_eq (tgt := 17) dX3_askDay_5 (by decide) (fun h9 => absurd h9 (by decide)) (fun _ => ?_)
  refine wa_aload_n dX3_askDay_8 rfl rfl ?_
  refine wa_getR (q := (RX3, TX3, 8)) (ci := 3) (k := 4) dX3_askDay_9 rfl (by decide) wf_X3_21 hp.1 rfl (prt_r4 hp) ?_
  refine wa_iload_n dX3_askDay_12 rfl ?_
  refine wa_baldN dX3_askDay_13 (prt_s4 hp) (Or.inr rfl) (by omega) (by decide) ?_
  refine wa_if_ne (tgt := 20) dX3_askDay_14 (by decide) (fun hT14 => ?_) (fun hF14 => ?_)
  · refine wa_iload_n dX3_askDay_20 rfl ?_
    refine wa_iconst (v := 1) dX3_askDay_21 (by decide) ?_
    refine wa_iadd dX3_askDay_22 ?_
    refine wa_istore_n dX3_askDay_23 (by decide) rfl rfl ?_
    rw [show nI k + 1 = nI (k + 1) from nI_1 k]
    exact lp (n - (k + 1)) (k + 1) rfl (by omega) (by unfold pa_ at hQ; rw [if_neg hT14] at hQ; exact hQ)
  · refine wa_bipush (v := -2) dX3_askDay_17 (by decide) ?_
    exact wa_iret dX3_askDay_19 rfl (by unfold pa_ at hQ; rw [if_pos hF14] at hQ; exact hQ)

theorem k_X3_comeDay {G : mm_G} {d : Nat} {Q : Option Value → mm_M → Prop} {M : mm_M} {p : Nat} (k : Nat) (td : Int32) (n : Nat) (hp : prt_ M p) (hS : mm_I M p 5 = nI n) (hn : n ≤ 30) (hk : k < n) (hQ : Q (some (.int (pc_ M p n td k))) M) : ma_ G jX3_comeDay (d + 2) 0 0 [.ref p, .int (nI k), .int td] M Q := by
  refine ma_of [some (.ref p), some (.int (nI k)), some (.int td), none, none] (by decide) rfl (Nat.le_of_ble_eq_true rfl) ?_
  refine wa_aload_n dX3_comeDay_0 rfl rfl ?_
  refine wa_iload_n dX3_comeDay_1 rfl ?_
  refine wa_callV (q := (RX3, TX3, 8)) (As := [.int (nI k)]) dX3_comeDay_2 lk_X3_41 rfl rfl hp.1 rfl rfl (Nat.le_of_ble_eq_true rfl) (Nat.le_of_eq (Nat.zero_add _)) (Nat.le_of_eq (Nat.zero_add _)) (k_X3_wasSent (nI k) n hp hS hn (fun j9 e9 h9 => ?_) (fun q9 => absurd q9 (by rintro (z | z) <;> first | exact nI_pos (by omega) z | exact nI_ge (by omega) (by omega) z)))
  refine wa_if_ne (tgt := 11) dX3_comeDay_5 (by decide) (fun _ => ?_) (fun h9 => absurd h9 (by decide))
  refine wa_aload_n dX3_comeDay_11 rfl rfl ?_
  refine wa_getR (q := (RX3, TX3, 8)) (ci := 3) (k := 3) dX3_comeDay_12 rfl (by decide) wf_X3_18 hp.1 rfl (prt_r3 hp) ?_
  refine wa_iload_n dX3_comeDay_15 rfl ?_
  refine wa_ialdN dX3_comeDay_16 (prt_s3 hp) (Or.inl rfl) (by omega) (by decide) ?_
  refine wa_istore_n dX3_comeDay_17 (by decide) rfl rfl ?_
  refine wa_aload_n dX3_comeDay_18 rfl rfl ?_
  refine wa_getR (q := (RX3, TX3, 8)) (ci := 3) (k := 4) dX3_comeDay_19 rfl (by decide) wf_X3_21 hp.1 rfl (prt_r4 hp) ?_
  refine wa_iload_n dX3_comeDay_22 rfl ?_
  refine wa_baldN dX3_comeDay_23 (prt_s4 hp) (Or.inr rfl) (by omega) (by decide) ?_
  refine wa_if_eq (tgt := 55) dX3_comeDay_24 (by decide) (fun hT24 => ?_) (fun hF24 => ?_)
  · refine wa_iload_n dX3_comeDay_55 rfl ?_
    refine wa_iload_n dX3_comeDay_56 rfl ?_
    refine wa_icmp_gt (tgt := 64) dX3_comeDay_57 (by decide) (fun hT57 => ?_) (fun hF57 => ?_)
    · refine wa_bipush (v := -2) dX3_comeDay_64 (by decide) ?_
      exact wa_iret dX3_comeDay_66 rfl (by unfold pc_ pd_ at hQ; first | (rw [if_pos (by assumption), if_pos (Int32.not_lt.mp (by assumption))] at hQ; exact hQ) | (rw [if_pos (by assumption), if_neg (Int32.not_le.mpr (by assumption))] at hQ; exact hQ) | (rw [if_neg (by assumption), if_pos (by assumption)] at hQ; exact hQ) | (rw [if_neg (by assumption), if_neg (by assumption), if_pos (Int32.not_lt.mp (by assumption))] at hQ; exact hQ) | (rw [if_neg (by assumption), if_neg (by assumption), if_neg (Int32.not_le.mpr (by assumption))] at hQ; exact hQ))
    · refine wa_iload_n dX3_comeDay_60 rfl ?_
      refine wa_goto (tgt := 66) dX3_comeDay_61 (by decide) ?_
      exact wa_iret dX3_comeDay_66 rfl (by unfold pc_ pd_ at hQ; first | (rw [if_pos (by assumption), if_pos (Int32.not_lt.mp (by assumption))] at hQ; exact hQ) | (rw [if_pos (by assumption), if_neg (Int32.not_le.mpr (by assumption))] at hQ; exact hQ) | (rw [if_neg (by assumption), if_pos (by assumption)] at hQ; exact hQ) | (rw [if_neg (by assumption), if_neg (by assumption), if_pos (Int32.not_lt.mp (by assumption))] at hQ; exact hQ) | (rw [if_neg (by assumption), if_neg (by assumption), if_neg (Int32.not_le.mpr (by assumption))] at hQ; exact hQ))
  · refine wa_aload_n dX3_comeDay_27 rfl rfl ?_
    refine wa_iload_n dX3_comeDay_28 rfl ?_
    refine wa_iload_n dX3_comeDay_29 rfl ?_
    refine wa_callV (q := (RX3, TX3, 8)) (As := [.int (nI k), .int td]) dX3_comeDay_30 lk_X3_45 rfl rfl hp.1 rfl rfl (Nat.le_of_ble_eq_true rfl) (Nat.le_of_eq (Nat.zero_add _)) (Nat.le_of_eq (Nat.zero_add _)) (k_X3_askDay k td n hp hS hn (by omega) ?_)
    refine wa_istore dX3_comeDay_33 (by decide) rfl rfl ?_
    refine wa_iload dX3_comeDay_35 rfl ?_
    refine wa_bipush (v := -2) dX3_comeDay_37 (by decide) ?_
    refine wa_icmp_ne (tgt := 45) dX3_comeDay_39 (by decide) (fun hT39 => ?_) (fun hF39 => ?_)
    · refine wa_iload dX3_comeDay_45 rfl ?_
      refine wa_iconst (v := 2) dX3_comeDay_47 (by decide) ?_
      refine wa_aload_n dX3_comeDay_48 rfl rfl ?_
      refine wa_getI (q := (RX3, TX3, 8)) (ci := 3) (k := 0) dX3_comeDay_49 rfl (by decide) wf_X3_35 hp.1 rfl ?_
      refine wa_imul dX3_comeDay_52 ?_
      refine wa_iadd dX3_comeDay_53 ?_
      refine wa_istore_n dX3_comeDay_54 (by decide) rfl rfl ?_
      refine wa_iload_n dX3_comeDay_55 rfl ?_
      refine wa_iload_n dX3_comeDay_56 rfl ?_
      refine wa_icmp_gt (tgt := 64) dX3_comeDay_57 (by decide) (fun hT57 => ?_) (fun hF57 => ?_)
      · refine wa_bipush (v := -2) dX3_comeDay_64 (by decide) ?_
        exact wa_iret dX3_comeDay_66 rfl (by unfold pc_ pd_ at hQ; first | (rw [if_pos (by assumption), if_pos (Int32.not_lt.mp (by assumption))] at hQ; exact hQ) | (rw [if_pos (by assumption), if_neg (Int32.not_le.mpr (by assumption))] at hQ; exact hQ) | (rw [if_neg (by assumption), if_pos (by assumption)] at hQ; exact hQ) | (rw [if_neg (by assumption), if_neg (by assumption), if_pos (Int32.not_lt.mp (by assumption))] at hQ; exact hQ) | (rw [if_neg (by assumption), if_neg (by assumption), if_neg (Int32.not_le.mpr (by assumption))] at hQ; exact hQ))
      · refine wa_iload_n dX3_comeDay_60 rfl ?_
        refine wa_goto (tgt := 66) dX3_comeDay_61 (by decide) ?_
        exact wa_iret dX3_comeDay_66 rfl (by unfold pc_ pd_ at hQ; first | (rw [if_pos (by assumption), if_pos (Int32.not_lt.mp (by assumption))] at hQ; exact hQ) | (rw [if_pos (by assumption), if_neg (Int32.not_le.mpr (by assumption))] at hQ; exact hQ) | (rw [if_neg (by assumption), if_pos (by assumption)] at hQ; exact hQ) | (rw [if_neg (by assumption), if_neg (by assumption), if_pos (Int32.not_lt.mp (by assumption))] at hQ; exact hQ) | (rw [if_neg (by assumption), if_neg (by assumption), if_neg (Int32.not_le.mpr (by assumption))] at hQ; exact hQ))
    · refine wa_bipush (v := -2) dX3_comeDay_42 (by decide) ?_
      exact wa_iret dX3_comeDay_44 rfl (by unfold pc_ pd_ at hQ; first | (rw [if_pos (by assumption), if_pos (Int32.not_lt.mp (by assumption))] at hQ; exact hQ) | (rw [if_pos (by assumption), if_neg (Int32.not_le.mpr (by assumption))] at hQ; exact hQ) | (rw [if_neg (by assumption), if_pos (by assumption)] at hQ; exact hQ) | (rw [if_neg (by assumption), if_neg (by assumption), if_pos (Int32.not_lt.mp (by assumption))] at hQ; exact hQ) | (rw [if_neg (by assumption), if_neg (by assumption), if_neg (Int32.not_le.mpr (by assumption))] at hQ; exact hQ))

theorem k_X3_inForce {G : mm_G} {d : Nat} {Q : Option Value → mm_M → Prop} {M : mm_M} {p : Nat} (td : Int32) (n : Nat) (hp : prt_ M p) (hS : mm_I M p 5 = nI n) (hn : n ≤ 30) (hQ : ∀ t, t ≤ n → (∀ j, j < t → ¬ pc_ M p n td j = -2) → (t < n → pc_ M p n td t = -2) → Q (some (.int (if t = 0 then -2 else nI t - 1))) M) : ma_ G jX3_inForce (d + 3) 0 0 [.ref p, .int td] M Q := by
  refine ma_of [some (.ref p), some (.int td), none] (by decide) rfl (Nat.le_of_ble_eq_true rfl) ?_
  have ex : ∀ t, t ≤ n → Q (some (.int (if t = 0 then -2 else nI t - 1))) M → wa_ 0 G jX3_inForce (d + 3) 0 0 Q 0 0 M 27 [some (.ref p), some (.int td), some (.int (nI t))] [] := by
    intro t ht hq
    refine wa_iload_n dX3_inForce_27 rfl ?_
    refine wa_if_ne (tgt := 36) dX3_inForce_28 (by decide) (fun hT28 => ?_) (fun hF28 => ?_)
    · refine wa_iload_n dX3_inForce_36 rfl ?_
      refine wa_iconst (v := 1) dX3_inForce_37 (by decide) ?_
      refine wa_isub dX3_inForce_38 ?_
      exact wa_iret dX3_inForce_39 rfl (by first | (rw [if_pos (ni_0 (by assumption) (by omega))] at hq; exact hq) | (rw [if_neg (fun h => (by assumption : ¬ nI t = 0) (by rw [h]; rfl))] at hq; exact hq))
    · refine wa_bipush (v := -2) dX3_inForce_31 (by decide) ?_
      refine wa_goto (tgt := 39) dX3_inForce_33 (by decide) ?_
      exact wa_iret dX3_inForce_39 rfl (by first | (rw [if_pos (ni_0 (by assumption) (by omega))] at hq; exact hq) | (rw [if_neg (fun h => (by assumption : ¬ nI t = 0) (by rw [h]; rfl))] at hq; exact hq))
  have lp : ∀ (r t : Nat), n - t = r → t ≤ n → (∀ j, j < t → ¬ pc_ M p n td j = -2) → wa_ 0 G jX3_inForce (d + 3) 0 0 Q 0 0 M 2 [some (.ref p), some (.int td), some (.int (nI t))] [] := by
    intro r
    induction r with
    | zero =>
      intro t hr ht hj
      have htn : t = n := by omega
      subst htn
      refine wa_iload_n dX3_inForce_2 rfl ?_
      refine wa_aload_n dX3_inForce_3 rfl rfl ?_
      refine wa_getI (q := (RX3, TX3, 8)) (ci := 3) (k := 5) dX3_inForce_4 rfl (by decide) wf_X3_25 hp.1 rfl ?_
      rw [hS]
      refine wa_icmp_ge (tgt := 27) dX3_inForce_7 (by decide) (fun hT7 => ?_) (fun hF7 => absurd (nI_le (Nat.le_refl _) (by omega)) hF7)
      exact ex t ht (hQ t ht hj (fun h => absurd h (by omega)))
    | succ r ih =>
      intro t hr ht hj
      refine wa_iload_n dX3_inForce_2 rfl ?_
      refine wa_aload_n dX3_inForce_3 rfl rfl ?_
      refine wa_getI (q := (RX3, TX3, 8)) (ci := 3) (k := 5) dX3_inForce_4 rfl (by decide) wf_X3_25 hp.1 rfl ?_
      rw [hS]
      refine wa_icmp_ge (tgt := 27) dX3_inForce_7 (by decide) (fun hT7 => absurd hT7 (nI_ge (by omega) (by omega))) (fun hF7 => ?_)
      refine wa_aload_n dX3_inForce_10 rfl rfl ?_
      refine wa_iload_n dX3_inForce_11 rfl ?_
      refine wa_iload_n dX3_inForce_12 rfl ?_
      refine wa_callV (q := (RX3, TX3, 8)) (As := [.int (nI t), .int td]) dX3_inForce_13 lk_X3_49 rfl rfl hp.1 rfl rfl (Nat.le_of_ble_eq_true rfl) (Nat.le_of_eq (Nat.zero_add _)) (Nat.le_of_eq (Nat.zero_add _)) (k_X3_comeDay t td n hp hS hn (by omega) ?_)
      refine wa_bipush (v := -2) dX3_inForce_16 (by decide) ?_
      refine wa_icmp_eq (tgt := 27) dX3_inForce_18 (by decide) (fun hT18 => ?_) (fun hF18 => ?_)
      · exact ex t ht (hQ t ht hj (fun _ => hT18))
      · refine wa_iinc (v := nI (t + 1)) dX3_inForce_21 rfl (ni_i1 t) (by decide) rfl rfl ?_
        refine wa_goto (tgt := 2) dX3_inForce_24 (by decide) ?_
        exact ih (t + 1) (by omega) (by omega) (fun j hj2 => by
          rcases Nat.lt_succ_iff_lt_or_eq.mp hj2 with h | h
          · exact hj j h
          · rw [h]; exact hF18)
  refine wa_iconst (v := 0) dX3_inForce_0 (by decide) ?_
  refine wa_istore_n dX3_inForce_1 (by decide) rfl rfl ?_
  exact lp n 0 (by omega) (by omega) (fun j h => absurd h (by omega))

def po_ (M : mm_M) (p n : Nat) (td : Int32) (k : Nat) : Bool := decide (pc_ M p n td k = -2 ∧ (mm_I M (p + 3) k = 0 ∨ (¬ pa_ M p n td k = -2 ∧ pa_ M p n td k + mm_I M p 0 ≤ td)))
def pk_o (M : mm_M) (p n : Nat) (td : Int32) (k : Nat) : Bool := decide (¬ pa_ M p n td k = -2 ∧ td < pa_ M p n td k + mm_I M p 0)

theorem k_X3_isOut {G : mm_G} {d : Nat} {Q : Option Value → mm_M → Prop} {M : mm_M} {p : Nat} (k : Nat) (td : Int32) (n : Nat) (hp : prt_ M p) (hS : mm_I M p 5 = nI n) (hn : n ≤ 30) (hk : k < n) (h1 : po_ M p n td k = true → Q (some (.int 1)) M) (h0 : po_ M p n td k = false → Q (some (.int 0)) M) : ma_ G jX3_isOut (d + 3) 0 0 [.ref p, .int (nI k), .int td] M Q := by
  refine ma_of [some (.ref p), some (.int (nI k)), some (.int td), none] (by decide) rfl (Nat.le_of_ble_eq_true rfl) ?_
  refine wa_aload_n dX3_isOut_0 rfl rfl ?_
  refine wa_iload_n dX3_isOut_1 rfl ?_
  refine wa_iload_n dX3_isOut_2 rfl ?_
  refine wa_callV (q := (RX3, TX3, 8)) (As := [.int (nI k), .int td]) dX3_isOut_3 lk_X3_49 rfl rfl hp.1 rfl rfl (Nat.le_of_ble_eq_true rfl) (Nat.le_of_eq (Nat.zero_add _)) (Nat.le_of_eq (Nat.zero_add _)) (k_X3_comeDay k td n hp hS hn (by omega) ?_)
  refine wa_bipush (v := -2) dX3_isOut_6 (by decide) ?_
  refine wa_icmp_ne (tgt := 19) dX3_isOut_8 (by decide) (fun hT8 => ?_) (fun hF8 => ?_)
  · refine wa_iconst (v := 0) dX3_isOut_19 (by decide) ?_
    exact wa_zret dX3_isOut_20 rfl rfl (h0 (decide_eq_false (by rintro ⟨a, b | ⟨b, c⟩⟩ <;> first | exact absurd a (by assumption) | exact absurd b (by assumption) | exact absurd (by assumption) b | exact absurd c (Int32.not_le.mpr (by assumption)))))
  · refine wa_aload_n dX3_isOut_11 rfl rfl ?_
    refine wa_iload_n dX3_isOut_12 rfl ?_
    refine wa_callV (q := (RX3, TX3, 8)) (As := [.int (nI k)]) dX3_isOut_13 lk_X3_41 rfl rfl hp.1 rfl rfl (Nat.le_of_ble_eq_true rfl) (Nat.le_of_eq (Nat.zero_add _)) (Nat.le_of_eq (Nat.zero_add _)) (k_X3_wasSent (nI k) n hp hS hn (fun j9 e9 h9 => ?_) (fun q9 => absurd q9 (by rintro (z | z) <;> first | exact nI_pos (by omega) z | exact nI_ge (by omega) (by omega) z)))
    refine wa_if_ne (tgt := 21) dX3_isOut_16 (by decide) (fun _ => ?_) (fun h9 => absurd h9 (by decide))
    refine wa_aload_n dX3_isOut_21 rfl rfl ?_
    refine wa_iload_n dX3_isOut_22 rfl ?_
    refine wa_iload_n dX3_isOut_23 rfl ?_
    refine wa_callV (q := (RX3, TX3, 8)) (As := [.int (nI k), .int td]) dX3_isOut_24 lk_X3_45 rfl rfl hp.1 rfl rfl (Nat.le_of_ble_eq_true rfl) (Nat.le_of_eq (Nat.zero_add _)) (Nat.le_of_eq (Nat.zero_add _)) (k_X3_askDay k td n hp hS hn (by omega) ?_)
    refine wa_istore_n dX3_isOut_27 (by decide) rfl rfl ?_
    refine wa_aload_n dX3_isOut_28 rfl rfl ?_
    refine wa_getR (q := (RX3, TX3, 8)) (ci := 3) (k := 4) dX3_isOut_29 rfl (by decide) wf_X3_21 hp.1 rfl (prt_r4 hp) ?_
    refine wa_iload_n dX3_isOut_32 rfl ?_
    refine wa_baldN dX3_isOut_33 (prt_s4 hp) (Or.inr rfl) (by omega) (by decide) ?_
    refine wa_if_eq (tgt := 53) dX3_isOut_34 (by decide) (fun hT34 => ?_) (fun hF34 => ?_)
    · refine wa_iconst (v := 1) dX3_isOut_53 (by decide) ?_
      refine wa_goto (tgt := 58) dX3_isOut_54 (by decide) ?_
      exact wa_zret dX3_isOut_58 rfl rfl (h1 (decide_eq_true ⟨by assumption, by first | exact Or.inl (by assumption) | exact Or.inr ⟨by assumption, Int32.not_lt.mp (by assumption)⟩⟩))
    · refine wa_iload_n dX3_isOut_37 rfl ?_
      refine wa_bipush (v := -2) dX3_isOut_38 (by decide) ?_
      refine wa_icmp_eq (tgt := 57) dX3_isOut_40 (by decide) (fun hT40 => ?_) (fun hF40 => ?_)
      · refine wa_iconst (v := 0) dX3_isOut_57 (by decide) ?_
        exact wa_zret dX3_isOut_58 rfl rfl (h0 (decide_eq_false (by rintro ⟨a, b | ⟨b, c⟩⟩ <;> first | exact absurd a (by assumption) | exact absurd b (by assumption) | exact absurd (by assumption) b | exact absurd c (Int32.not_le.mpr (by assumption)))))
      · refine wa_iload_n dX3_isOut_43 rfl ?_
        refine wa_aload_n dX3_isOut_44 rfl rfl ?_
        refine wa_getI (q := (RX3, TX3, 8)) (ci := 3) (k := 0) dX3_isOut_45 rfl (by decide) wf_X3_35 hp.1 rfl ?_
        refine wa_iadd dX3_isOut_48 ?_
        refine wa_iload_n dX3_isOut_49 rfl ?_
        refine wa_icmp_gt (tgt := 57) dX3_isOut_50 (by decide) (fun hT50 => ?_) (fun hF50 => ?_)
        · refine wa_iconst (v := 0) dX3_isOut_57 (by decide) ?_
          exact wa_zret dX3_isOut_58 rfl rfl (h0 (decide_eq_false (by rintro ⟨a, b | ⟨b, c⟩⟩ <;> first | exact absurd a (by assumption) | exact absurd b (by assumption) | exact absurd (by assumption) b | exact absurd c (Int32.not_le.mpr (by assumption)))))
        · refine wa_iconst (v := 1) dX3_isOut_53 (by decide) ?_
          refine wa_goto (tgt := 58) dX3_isOut_54 (by decide) ?_
          exact wa_zret dX3_isOut_58 rfl rfl (h1 (decide_eq_true ⟨by assumption, by first | exact Or.inl (by assumption) | exact Or.inr ⟨by assumption, Int32.not_lt.mp (by assumption)⟩⟩))

theorem k_X3_isAskOut {G : mm_G} {d : Nat} {Q : Option Value → mm_M → Prop} {M : mm_M} {p : Nat} (k : Nat) (td : Int32) (n : Nat) (hp : prt_ M p) (hS : mm_I M p 5 = nI n) (hn : n ≤ 30) (hk : k < n) (h1 : pk_o M p n td k = true → Q (some (.int 1)) M) (h0 : pk_o M p n td k = false → Q (some (.int 0)) M) : ma_ G jX3_isAskOut (d + 2) 0 0 [.ref p, .int (nI k), .int td] M Q := by
  refine ma_of [some (.ref p), some (.int (nI k)), some (.int td), none] (by decide) rfl (Nat.le_of_ble_eq_true rfl) ?_
  refine wa_aload_n dX3_isAskOut_0 rfl rfl ?_
  refine wa_iload_n dX3_isAskOut_1 rfl ?_
  refine wa_iload_n dX3_isAskOut_2 rfl ?_
  refine wa_callV (q := (RX3, TX3, 8)) (As := [.int (nI k), .int td]) dX3_isAskOut_3 lk_X3_45 rfl rfl hp.1 rfl rfl (Nat.le_of_ble_eq_true rfl) (Nat.le_of_eq (Nat.zero_add _)) (Nat.le_of_eq (Nat.zero_add _)) (k_X3_askDay k td n hp hS hn (by omega) ?_)
  refine wa_istore_n dX3_isAskOut_6 (by decide) rfl rfl ?_
  refine wa_iload_n dX3_isAskOut_7 rfl ?_
  refine wa_bipush (v := -2) dX3_isAskOut_8 (by decide) ?_
  refine wa_icmp_eq (tgt := 27) dX3_isAskOut_10 (by decide) (fun hT10 => ?_) (fun hF10 => ?_)
  · refine wa_iconst (v := 0) dX3_isAskOut_27 (by decide) ?_
    exact wa_zret dX3_isAskOut_28 rfl rfl (h0 (decide_eq_false (by rintro ⟨b, c⟩; first | exact absurd (by assumption) b | exact absurd c (Int32.not_lt.mpr (by assumption)))))
  · refine wa_iload_n dX3_isAskOut_13 rfl ?_
    refine wa_aload_n dX3_isAskOut_14 rfl rfl ?_
    refine wa_getI (q := (RX3, TX3, 8)) (ci := 3) (k := 0) dX3_isAskOut_15 rfl (by decide) wf_X3_35 hp.1 rfl ?_
    refine wa_iadd dX3_isAskOut_18 ?_
    refine wa_iload_n dX3_isAskOut_19 rfl ?_
    refine wa_icmp_le (tgt := 27) dX3_isAskOut_20 (by decide) (fun hT20 => ?_) (fun hF20 => ?_)
    · refine wa_iconst (v := 0) dX3_isAskOut_27 (by decide) ?_
      exact wa_zret dX3_isAskOut_28 rfl rfl (h0 (decide_eq_false (by rintro ⟨b, c⟩; first | exact absurd (by assumption) b | exact absurd c (Int32.not_lt.mpr (by assumption)))))
    · refine wa_iconst (v := 1) dX3_isAskOut_23 (by decide) ?_
      refine wa_goto (tgt := 28) dX3_isAskOut_24 (by decide) ?_
      exact wa_zret dX3_isAskOut_28 rfl rfl (h1 (decide_eq_true ⟨by assumption, Int32.not_le.mp (by assumption)⟩))

theorem k_X3_accountsSent {G : mm_G} {d : Nat} {Q : Option Value → mm_M → Prop} {M : mm_M} {p : Nat} (td : Int32) (hp : prt_ M p) (hQ : Q (some (.int (ab_ td - ab_ (mm_I M p 1)))) M) : ma_ G jX3_accountsSent (d + 1) 0 0 [.ref p, .int td] M Q := by
  refine ma_of [some (.ref p), some (.int td)] (by decide) rfl (Nat.le_of_ble_eq_true rfl) ?_
  refine wa_iload_n dX3_accountsSent_0 rfl ?_
  refine wa_callSN (As := [.int (td)]) dX3_accountsSent_1 lk_X3_66 ws_X10_accountsBelow rfl rfl (Nat.le_of_ble_eq_true rfl) (Nat.le_of_eq (Nat.zero_add _)) (Nat.le_of_eq (Nat.zero_add _)) (k_X10_accountsBelow _ ?_)
  refine wa_aload_n dX3_accountsSent_4 rfl rfl ?_
  refine wa_getI (q := (RX3, TX3, 8)) (ci := 3) (k := 1) dX3_accountsSent_5 rfl (by decide) wf_X3_38 hp.1 rfl ?_
  refine wa_callSN (As := [.int (mm_I M p 1)]) dX3_accountsSent_8 lk_X3_66 ws_X10_accountsBelow rfl rfl (Nat.le_of_ble_eq_true rfl) (Nat.le_of_eq (Nat.zero_add _)) (Nat.le_of_eq (Nat.zero_add _)) (k_X10_accountsBelow _ ?_)
  refine wa_isub dX3_accountsSent_11 ?_
  exact wa_iret dX3_accountsSent_12 rfl (hQ)

theorem k_X3_accountsCome {G : mm_G} {d : Nat} {Q : Option Value → mm_M → Prop} {M : mm_M} {p : Nat} (td : Int32) (hp : prt_ M p) (hQ : Q (some (.int (if 0 < ab_ (td - mm_I M p 0 + 1) - ab_ (mm_I M p 1) then ab_ (td - mm_I M p 0 + 1) - ab_ (mm_I M p 1) else 0))) M) : ma_ G jX3_accountsCome (d + 1) 0 0 [.ref p, .int td] M Q := by
  refine ma_of [some (.ref p), some (.int td)] (by decide) rfl (Nat.le_of_ble_eq_true rfl) ?_
  refine wa_iconst (v := 0) dX3_accountsCome_0 (by decide) ?_
  refine wa_iload_n dX3_accountsCome_1 rfl ?_
  refine wa_aload_n dX3_accountsCome_2 rfl rfl ?_
  refine wa_getI (q := (RX3, TX3, 8)) (ci := 3) (k := 0) dX3_accountsCome_3 rfl (by decide) wf_X3_35 hp.1 rfl ?_
  refine wa_isub dX3_accountsCome_6 ?_
  refine wa_iconst (v := 1) dX3_accountsCome_7 (by decide) ?_
  refine wa_iadd dX3_accountsCome_8 ?_
  refine wa_callSN (As := [.int (td - mm_I M p 0 + 1)]) dX3_accountsCome_9 lk_X3_66 ws_X10_accountsBelow rfl rfl (Nat.le_of_ble_eq_true rfl) (Nat.le_of_eq (Nat.zero_add _)) (Nat.le_of_eq (Nat.zero_add _)) (k_X10_accountsBelow _ ?_)
  refine wa_aload_n dX3_accountsCome_12 rfl rfl ?_
  refine wa_getI (q := (RX3, TX3, 8)) (ci := 3) (k := 1) dX3_accountsCome_13 rfl (by decide) wf_X3_38 hp.1 rfl ?_
  refine wa_callSN (As := [.int (mm_I M p 1)]) dX3_accountsCome_16 lk_X3_66 ws_X10_accountsBelow rfl rfl (Nat.le_of_ble_eq_true rfl) (Nat.le_of_eq (Nat.zero_add _)) (Nat.le_of_eq (Nat.zero_add _)) (k_X10_accountsBelow _ ?_)
  refine wa_isub dX3_accountsCome_19 ?_
  refine wa_mmax dX3_accountsCome_20 lk_X3_69 (Nat.le_of_ble_eq_true rfl) ?_
  exact wa_iret dX3_accountsCome_23 rfl (hQ)

theorem k_X3_stampsOf {G : mm_G} {d : Nat} {Q : Option Value → mm_M → Prop} {M : mm_M} {p : Nat} (w : Nat) (hp : prt_ M p) (hw : w < 5) (hQ : Q (some (.int (mm_I M (p + 1) w))) M) : ma_ G jX3_stampsOf d 0 0 [.ref p, .int (nI w)] M Q := by
  refine ma_of [some (.ref p), some (.int (nI w))] (by decide) rfl (Nat.le_of_ble_eq_true rfl) ?_
  refine wa_iload_n dX3_stampsOf_0 rfl ?_
  refine wa_if_lt (tgt := 22) dX3_stampsOf_1 (by decide) (fun hT1 => absurd hT1 (nI_pos (by omega))) (fun hF1 => ?_)
  refine wa_iload_n dX3_stampsOf_4 rfl ?_
  refine wa_aload_n dX3_stampsOf_5 rfl rfl ?_
  refine wa_getR (q := (RX3, TX3, 8)) (ci := 3) (k := 2) dX3_stampsOf_6 rfl (by decide) wf_X3_13 hp.1 rfl (prt_r2 hp) ?_
  refine wa_alen dX3_stampsOf_9 (prt_s2 hp) ?_
  refine wa_icmp_ge (tgt := 22) dX3_stampsOf_10 (by decide) (fun hT10 => absurd hT10 (nI_ge (b := 5) (by omega) (by decide))) (fun hF10 => ?_)
  refine wa_aload_n dX3_stampsOf_13 rfl rfl ?_
  refine wa_getR (q := (RX3, TX3, 8)) (ci := 3) (k := 2) dX3_stampsOf_14 rfl (by decide) wf_X3_13 hp.1 rfl (prt_r2 hp) ?_
  refine wa_iload_n dX3_stampsOf_17 rfl ?_
  refine wa_ialdN dX3_stampsOf_18 (prt_s2 hp) (Or.inl rfl) (by omega) (by decide) ?_
  refine wa_goto (tgt := 23) dX3_stampsOf_19 (by decide) ?_
  exact wa_iret dX3_stampsOf_23 rfl (hQ)

theorem k_X3_addStamps {G : mm_G} {d : Nat} {Q : Option Value → mm_M → Prop} {M : mm_M} {p : Nat} (w : Nat) (v : Int32) (hp : prt_ M p) (hw : w < 5) (hQ : Q none (mm_sI M (p + 1) w (mm_I M (p + 1) w + v))) : ma_ G jX3_addStamps d 0 0 [.ref p, .int (nI w), .int v] M Q := by
  refine ma_of [some (.ref p), some (.int (nI w)), some (.int v)] (by decide) rfl (Nat.le_of_ble_eq_true rfl) ?_
  refine wa_iload_n dX3_addStamps_0 rfl ?_
  refine wa_if_lt (tgt := 23) dX3_addStamps_1 (by decide) (fun hT1 => absurd hT1 (nI_pos (by omega))) (fun hF1 => ?_)
  refine wa_iload_n dX3_addStamps_4 rfl ?_
  refine wa_aload_n dX3_addStamps_5 rfl rfl ?_
  refine wa_getR (q := (RX3, TX3, 8)) (ci := 3) (k := 2) dX3_addStamps_6 rfl (by decide) wf_X3_13 hp.1 rfl (prt_r2 hp) ?_
  refine wa_alen dX3_addStamps_9 (prt_s2 hp) ?_
  refine wa_icmp_ge (tgt := 23) dX3_addStamps_10 (by decide) (fun hT10 => absurd hT10 (nI_ge (b := 5) (by omega) (by decide))) (fun hF10 => ?_)
  refine wa_aload_n dX3_addStamps_13 rfl rfl ?_
  refine wa_getR (q := (RX3, TX3, 8)) (ci := 3) (k := 2) dX3_addStamps_14 rfl (by decide) wf_X3_13 hp.1 rfl (prt_r2 hp) ?_
  refine wa_iload_n dX3_addStamps_17 rfl ?_
  refine wa_dup2 dX3_addStamps_18 rfl rfl ?_
  refine wa_ialdN dX3_addStamps_19 (prt_s2 hp) (Or.inl rfl) (by omega) (by decide) ?_
  refine wa_iload_n dX3_addStamps_20 rfl ?_
  refine wa_iadd dX3_addStamps_21 ?_
  refine wa_iastN dX3_addStamps_22 (prt_s2 hp) (by omega) (by decide) ?_
  exact wa_vret dX3_addStamps_23 rfl (hQ)

theorem k_X3_send {G : mm_G} {d : Nat} {Q : Option Value → mm_M → Prop} {M : mm_M} {p : Nat} (c : Int32) (n : Nat) (hp : prt_ M p) (hS : mm_I M p 5 = nI n) (hn : n < 30) (hQ : Q none (mm_sI (mm_sI M (p + 2) n c) p 5 (nI (n + 1)))) : ma_ G jX3_send d 0 0 [.ref p, .int c] M Q := by
  refine ma_of [some (.ref p), some (.int c)] (by decide) rfl (Nat.le_of_ble_eq_true rfl) ?_
  refine wa_aload_n dX3_send_0 rfl rfl ?_
  refine wa_getI (q := (RX3, TX3, 8)) (ci := 3) (k := 5) dX3_send_1 rfl (by decide) wf_X3_25 hp.1 rfl ?_
  rw [hS]
  refine wa_if_lt (tgt := 39) dX3_send_4 (by decide) (fun hT4 => absurd hT4 (nI_pos (by omega))) (fun hF4 => ?_)
  refine wa_aload_n dX3_send_7 rfl rfl ?_
  refine wa_getI (q := (RX3, TX3, 8)) (ci := 3) (k := 5) dX3_send_8 rfl (by decide) wf_X3_25 hp.1 rfl ?_
  rw [hS]
  refine wa_aload_n dX3_send_11 rfl rfl ?_
  refine wa_getR (q := (RX3, TX3, 8)) (ci := 3) (k := 3) dX3_send_12 rfl (by decide) wf_X3_18 hp.1 rfl (prt_r3 hp) ?_
  refine wa_alen dX3_send_15 (prt_s3 hp) ?_
  refine wa_icmp_ge (tgt := 39) dX3_send_16 (by decide) (fun hT16 => absurd hT16 (nI_ge (b := 30) (by omega) (by decide))) (fun hF16 => ?_)
  refine wa_aload_n dX3_send_19 rfl rfl ?_
  refine wa_getR (q := (RX3, TX3, 8)) (ci := 3) (k := 3) dX3_send_20 rfl (by decide) wf_X3_18 hp.1 rfl (prt_r3 hp) ?_
  refine wa_aload_n dX3_send_23 rfl rfl ?_
  refine wa_getI (q := (RX3, TX3, 8)) (ci := 3) (k := 5) dX3_send_24 rfl (by decide) wf_X3_25 hp.1 rfl ?_
  rw [hS]
  refine wa_iload_n dX3_send_27 rfl ?_
  refine wa_iastN dX3_send_28 (prt_s3 hp) (by omega) (by decide) ?_
  refine wa_aload_n dX3_send_29 rfl rfl ?_
  refine wa_dup dX3_send_30 rfl ?_
  refine wa_getI (q := (RX3, TX3, 8)) (ci := 3) (k := 5) dX3_send_31 rfl (by decide) wf_X3_25 hp.1 rfl ?_
  rw [show mm_I (mm_sI M (p + 2) n c) p 5 = nI n from by rw [mm_I_sI, if_neg (by omega)]; exact hS]
  refine wa_iconst (v := 1) dX3_send_34 (by decide) ?_
  refine wa_iadd dX3_send_35 ?_
  rw [nI_1]
  refine wa_put (q := (RX3, TX3, 8)) (ci := 3) (k := 5) dX3_send_36 rfl (by decide) wf_X3_25 rfl hp.1 rfl ?_
  exact wa_vret dX3_send_39 rfl (hQ)

theorem k_X3_lose {G : mm_G} {d : Nat} {Q : Option Value → mm_M → Prop} {M : mm_M} {p : Nat} (k : Nat) (td : Int32) (n : Nat) (hp : prt_ M p) (hS : mm_I M p 5 = nI n) (hn : n ≤ 30) (hk : k < n) (h0 : ¬ mm_I M (p + 3) k = 0 ∨ mm_I M (p + 2) k ≤ td → Q (some (.int 0)) M) (h1 : mm_I M (p + 3) k = 0 → td < mm_I M (p + 2) k → Q (some (.int 1)) (mm_sI M (p + 3) k 1)) : ma_ G jX3_lose (d + 1) 0 0 [.ref p, .int (nI k), .int td] M Q := by
  refine ma_of [some (.ref p), some (.int (nI k)), some (.int td)] (by decide) rfl (Nat.le_of_ble_eq_true rfl) ?_
  refine wa_aload_n dX3_lose_0 rfl rfl ?_
  refine wa_iload_n dX3_lose_1 rfl ?_
  refine wa_callV (q := (RX3, TX3, 8)) (As := [.int (nI k)]) dX3_lose_2 lk_X3_41 rfl rfl hp.1 rfl rfl (Nat.le_of_ble_eq_true rfl) (Nat.le_of_eq (Nat.zero_add _)) (Nat.le_of_eq (Nat.zero_add _)) (k_X3_wasSent (nI k) n hp hS hn (fun j9 e9 h9 => ?_) (fun q9 => absurd q9 (by rintro (z | z) <;> first | exact nI_pos (by omega) z | exact nI_ge (by omega) (by omega) z)))
  refine wa_if_eq (tgt := 27) dX3_lose_5 (by decide) (fun h9 => absurd h9 (by decide)) (fun _ => ?_)
  refine wa_aload_n dX3_lose_8 rfl rfl ?_
  refine wa_getR (q := (RX3, TX3, 8)) (ci := 3) (k := 4) dX3_lose_9 rfl (by decide) wf_X3_21 hp.1 rfl (prt_r4 hp) ?_
  refine wa_iload_n dX3_lose_12 rfl ?_
  refine wa_baldN dX3_lose_13 (prt_s4 hp) (Or.inr rfl) (by omega) (by decide) ?_
  refine wa_if_ne (tgt := 27) dX3_lose_14 (by decide) (fun hT14 => ?_) (fun hF14 => ?_)
  · refine wa_iconst (v := 0) dX3_lose_27 (by decide) ?_
    exact wa_zret dX3_lose_28 rfl rfl (h0 (by first | exact Or.inl (by assumption) | exact Or.inr (Int32.not_lt.mp (by assumption))))
  · refine wa_aload_n dX3_lose_17 rfl rfl ?_
    refine wa_getR (q := (RX3, TX3, 8)) (ci := 3) (k := 3) dX3_lose_18 rfl (by decide) wf_X3_18 hp.1 rfl (prt_r3 hp) ?_
    refine wa_iload_n dX3_lose_21 rfl ?_
    refine wa_ialdN dX3_lose_22 (prt_s3 hp) (Or.inl rfl) (by omega) (by decide) ?_
    refine wa_iload_n dX3_lose_23 rfl ?_
    refine wa_icmp_gt (tgt := 29) dX3_lose_24 (by decide) (fun hT24 => ?_) (fun hF24 => ?_)
    · refine wa_aload_n dX3_lose_29 rfl rfl ?_
      refine wa_getR (q := (RX3, TX3, 8)) (ci := 3) (k := 4) dX3_lose_30 rfl (by decide) wf_X3_21 hp.1 rfl (prt_r4 hp) ?_
      refine wa_iload_n dX3_lose_33 rfl ?_
      refine wa_iconst (v := 1) dX3_lose_34 (by decide) ?_
      refine wa_zastN dX3_lose_35 (prt_s4 hp) (by omega) (by decide) (by decide) ?_
      refine wa_iconst (v := 1) dX3_lose_36 (by decide) ?_
      exact wa_zret dX3_lose_37 rfl rfl (h1 (by assumption) (by assumption))
    · refine wa_iconst (v := 0) dX3_lose_27 (by decide) ?_
      exact wa_zret dX3_lose_28 rfl rfl (h0 (by first | exact Or.inl (by assumption) | exact Or.inr (Int32.not_lt.mp (by assumption))))
