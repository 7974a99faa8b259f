/-! the class's reader: where it stands, or the fault it met -/
def rc_ (K L V : Nat → Int32) (M : mm_M) (r t : Nat) : Prop := mm_sh M r = some (.inl 4) ∧ mm_R M r 2 = some t ∧ tok_ M t ∧ mm_I M (t + 1) = K ∧ mm_I M (t + 2) = L ∧ mm_I M (t + 3) = V
def rs_ (m : Nat) (K L V : Nat → Int32) (M : mm_M) (r : Nat) : (Int32 × Int32) ⊕ Nat → Prop
  | .inl q => mm_I M r 0 = q.1 ∧ ¬ q.1 = 0 ∧ mm_I M r 1 = q.2
  | .inr i => i ≤ m ∧ mm_I M r 0 = 0 ∧ mm_I M r 1 = L i ∧ mm_I M r 3 = nI (i + 1) ∧ mm_I M r 4 = K i ∧ mm_I M r 5 = V i
def rx_ (m : Nat) (K L V : Nat → Int32) (M : mm_M) (r t : Nat) (σ : (Int32 × Int32) ⊕ Nat) : Prop := (m ≤ 300 ∧ K m = 0) ∧ rc_ K L V M r t ∧ rs_ m K L V M r σ
theorem rs_eq {m : Nat} {K L V : Nat → Int32} {M M' : mm_M} {r : Nat} {σ : (Int32 × Int32) ⊕ Nat} (e : mm_I M' r = mm_I M r) (h : rs_ m K L V M r σ) : rs_ m K L V M' r σ := by
  cases σ with
  | inl q => unfold rs_ at h ⊢; rw [e]; exact h
  | inr i => unfold rs_ at h ⊢; rw [e]; exact h
theorem tok_nw {X Y : Nat → Prop} {M M' : mm_M} {t : Nat} (h : nw_ X Y M M') (hY : ¬ Y t) (c : tok_ M t) : tok_ M' t := by
  obtain ⟨k1, k2, k3, k4, k5, k6, k7⟩ := c
  have e := (h _ _ k1).2.2.2 hY
  exact ⟨(h _ _ k1).1, by rw [e]; exact k2, (h _ _ k3).1, by rw [e]; exact k4, (h _ _ k5).1, by rw [e]; exact k6, (h _ _ k7).1⟩
theorem rc_nw {X Y : Nat → Prop} {K L V : Nat → Int32} {M M' : mm_M} {r t : Nat} (h : nw_ X Y M M') (hX : ¬ X (t + 1) ∧ ¬ X (t + 2) ∧ ¬ X (t + 3)) (hY : ¬ Y r ∧ ¬ Y t) (c : rc_ K L V M r t) : rc_ K L V M' r t := by
  obtain ⟨c1, c2, c3, c4, c5, c6⟩ := c
  refine ⟨(h _ _ c1).1, by rw [(h _ _ c1).2.2.2 hY.1]; exact c2, tok_nw h hY.2 c3, ?_, ?_, ?_⟩
  · exact ((h _ _ (tok_s0 c3)).2.1 hX.1).trans c4
  · exact ((h _ _ (tok_s1 c3)).2.1 hX.2.1).trans c5
  · exact ((h _ _ (tok_s2 c3)).2.1 hX.2.2).trans c6
theorem rx_nw {X Y : Nat → Prop} {m : Nat} {K L V : Nat → Int32} {M M' : mm_M} {r t : Nat} {σ : (Int32 × Int32) ⊕ Nat} (h : nw_ X Y M M') (hX : ¬ X r ∧ ¬ X (t + 1) ∧ ¬ X (t + 2) ∧ ¬ X (t + 3)) (hY : ¬ Y r ∧ ¬ Y t) (c : rx_ m K L V M r t σ) : rx_ m K L V M' r t σ :=
  ⟨c.1, rc_nw h hX.2 hY c.2.1, rs_eq ((h _ _ c.2.1.1).2.1 hX.1) c.2.2⟩
theorem rc_r {K L V : Nat → Int32} {M : mm_M} {r t : Nat} (c : rc_ K L V M r t) : r ≠ t + 1 ∧ r ≠ t + 2 ∧ r ≠ t + 3 ∧ r ≠ t := by
  refine ⟨fun e => ?_, fun e => ?_, fun e => ?_, fun e => ?_⟩
  · have h := tok_s0 c.2.2.1; rw [← e, c.1] at h; cases h
  · have h := tok_s1 c.2.2.1; rw [← e, c.1] at h; cases h
  · have h := tok_s2 c.2.2.1; rw [← e, c.1] at h; cases h
  · have h := c.2.2.1.1; rw [← e, c.1] at h; cases h
theorem rx_new {m : Nat} {K L V : Nat → Int32} {M : mm_M} {r t : Nat} {σ : (Int32 × Int32) ⊕ Nat} {s : mm_S} (he : mm_ext M s) (c : rx_ m K L V M r t σ) : rx_ m K L V (mm_new M s) r t σ :=
  rx_nw (X := fun _ => False) (Y := fun _ => False) (nw_new (nw_rf _ _ _) he) ⟨id, id, id, id⟩ ⟨id, id⟩ c
/-- ints of another cell -/
theorem rx_oI {m : Nat} {K L V : Nat → Int32} {M : mm_M} {r t a k : Nat} {v : Int32} {σ : (Int32 × Int32) ⊕ Nat} {ci : Nat} (ha : mm_sh M a = some (.inl ci)) (h4 : ci ≠ 4) (c : rx_ m K L V M r t σ) : rx_ m K L V (mm_sI M a k v) r t σ := by
  refine rx_nw (X := fun z => z = a) (Y := fun _ => False) (nw_I (nw_rf _ _ _) (Or.inl rfl)) ⟨fun e => ?_, fun e => ?_, fun e => ?_, fun e => ?_⟩ ⟨id, id⟩ c
  · have h := c.2.1.1; rw [e, ha] at h; cases h; exact h4 rfl
  · have h := tok_s0 c.2.1.2.2.1; rw [e, ha] at h; cases h
  · have h := tok_s1 c.2.1.2.2.1; rw [e, ha] at h; cases h
  · have h := tok_s2 c.2.1.2.2.1; rw [e, ha] at h; cases h
theorem mm_putI (M : mm_M) (a k : Nat) (x : Int32) : mm_put M a k (.int x) = mm_sI M a k x := rfl
theorem mm_putR (M : mm_M) (a k x : Nat) : mm_put M a k (.ref x) = mm_sR M a k (some x) := rfl
theorem mm_putN (M : mm_M) (a k : Nat) : mm_put M a k .null = mm_sR M a k none := rfl
def rk_ (M : mm_M) (r : Nat) (K L V : Nat → Int32) (j : Nat) : mm_M := mm_sI (mm_sI (mm_sI (mm_sI M r 4 (K j)) r 1 (L j)) r 5 (V j)) r 3 (nI (j + 1))

theorem k_X4_skip {G : mm_G} {d : Nat} {Q : Option Value → mm_M → Prop} {M : mm_M} {r t : Nat} {K L V : Nat → Int32} (w : Int32) (j : Nat) (hc : rc_ K L V M r t) (hj : mm_I M r 0 = 0 → mm_I M r 4 = w → mm_I M r 3 = nI j ∧ j ≤ 300) (h0 : ¬ (mm_I M r 0 = 0 ∧ mm_I M r 4 = w) → Q (some (.int 0)) M) (h1 : mm_I M r 0 = 0 → mm_I M r 4 = w → Q (some (.int 1)) (rk_ M r K L V j)) : ma_ G jX4_skip d 0 0 [.ref r, .int w] M Q := by
  refine ma_of [some (.ref r), some (.int w)] (by decide) rfl (Nat.le_of_ble_eq_true rfl) ?_
  have hr := rc_r hc
  have e1 : ∀ q, mm_I M (t + 1) q = K q := fun q => by rw [hc.2.2.2.1]
  have e2 : ∀ q, mm_I M (t + 2) q = L q := fun q => by rw [hc.2.2.2.2.1]
  have e3 : ∀ q, mm_I M (t + 3) q = V q := fun q => by rw [hc.2.2.2.2.2]
  refine wa_aload_n dX4_skip_0 rfl rfl ?_
  refine wa_getI (q := (RX4, TX4, 6)) (ci := 4) (k := 0) dX4_skip_1 rfl (by decide) wf_X4_9 hc.1 rfl ?_
  refine wa_if_ne (tgt := 15) dX4_skip_4 (by decide) (fun hT4 => ?_) (fun hF4 => ?_)
  · refine wa_iconst (v := 0) dX4_skip_15 (by decide) ?_
    exact wa_zret dX4_skip_16 rfl rfl (h0 (fun q => by first | exact hT4 q.1 | exact hF12 q.2))
  · refine wa_aload_n dX4_skip_7 rfl rfl ?_
    refine wa_getI (q := (RX4, TX4, 6)) (ci := 4) (k := 4) dX4_skip_8 rfl (by decide) wf_X4_21 hc.1 rfl ?_
    refine wa_iload_n dX4_skip_11 rfl ?_
    refine wa_icmp_eq (tgt := 17) dX4_skip_12 (by decide) (fun hT12 => ?_) (fun hF12 => ?_)
    · obtain ⟨hj1, hj2⟩ := hj hF4 hT12
      refine wa_aload_n dX4_skip_17 rfl rfl ?_
      refine wa_getI (q := (RX4, TX4, 6)) (ci := 4) (k := 3) dX4_skip_18 rfl (by decide) wf_X4_18 hc.1 rfl ?_
      rw [hj1]
      refine wa_if_lt (tgt := 127) dX4_skip_21 (by decide) (fun hT21 => absurd hT21 (nI_pos (by omega))) (fun hF21 => ?_)
      refine wa_aload_n dX4_skip_24 rfl rfl ?_
      refine wa_getI (q := (RX4, TX4, 6)) (ci := 4) (k := 3) dX4_skip_25 rfl (by decide) wf_X4_18 hc.1 rfl ?_
      rw [hj1]
      refine wa_aload_n dX4_skip_28 rfl rfl ?_
      refine wa_getR (q := (RX4, TX4, 6)) (ci := 4) (k := 2) dX4_skip_29 rfl (by decide) wf_X4_27 hc.1 rfl (rf_some hc.2.1) ?_
      refine wa_getR (q := (RX9, TX9, 4)) (ci := 9) (k := 0) dX4_skip_32 rfl (by decide) wf_X4_89 hc.2.2.1.1 rfl (tok_r0 hc.2.2.1) ?_
      refine wa_alen dX4_skip_35 (tok_s0 hc.2.2.1) ?_
      refine wa_icmp_ge (tgt := 127) dX4_skip_36 (by decide) (fun hT36 => absurd hT36 (nI_ge (b := 301) (by omega) (by decide))) (fun hF36 => ?_)
      refine wa_aload_n dX4_skip_39 rfl rfl ?_
      refine wa_getI (q := (RX4, TX4, 6)) (ci := 4) (k := 3) dX4_skip_40 rfl (by decide) wf_X4_18 hc.1 rfl ?_
      rw [hj1]
      refine wa_aload_n dX4_skip_43 rfl rfl ?_
      refine wa_getR (q := (RX4, TX4, 6)) (ci := 4) (k := 2) dX4_skip_44 rfl (by decide) wf_X4_27 hc.1 rfl (rf_some hc.2.1) ?_
      refine wa_getR (q := (RX9, TX9, 4)) (ci := 9) (k := 1) dX4_skip_47 rfl (by decide) wf_X4_95 hc.2.2.1.1 rfl (tok_r1 hc.2.2.1) ?_
      refine wa_alen dX4_skip_50 (tok_s1 hc.2.2.1) ?_
      refine wa_icmp_ge (tgt := 127) dX4_skip_51 (by decide) (fun hT51 => absurd hT51 (nI_ge (b := 301) (by omega) (by decide))) (fun hF51 => ?_)
      refine wa_aload_n dX4_skip_54 rfl rfl ?_
      refine wa_getI (q := (RX4, TX4, 6)) (ci := 4) (k := 3) dX4_skip_55 rfl (by decide) wf_X4_18 hc.1 rfl ?_
      rw [hj1]
      refine wa_aload_n dX4_skip_58 rfl rfl ?_
      refine wa_getR (q := (RX4, TX4, 6)) (ci := 4) (k := 2) dX4_skip_59 rfl (by decide) wf_X4_27 hc.1 rfl (rf_some hc.2.1) ?_
      refine wa_getR (q := (RX9, TX9, 4)) (ci := 9) (k := 2) dX4_skip_62 rfl (by decide) wf_X4_98 hc.2.2.1.1 rfl (tok_r2 hc.2.2.1) ?_
      refine wa_alen dX4_skip_65 (tok_s2 hc.2.2.1) ?_
      refine wa_icmp_ge (tgt := 127) dX4_skip_66 (by decide) (fun hT66 => absurd hT66 (nI_ge (b := 301) (by omega) (by decide))) (fun hF66 => ?_)
      refine wa_aload_n dX4_skip_69 rfl rfl ?_
      refine wa_aload_n dX4_skip_70 rfl rfl ?_
      refine wa_getR (q := (RX4, TX4, 6)) (ci := 4) (k := 2) dX4_skip_71 rfl (by decide) wf_X4_27 hc.1 rfl (rf_some hc.2.1) ?_
      refine wa_getR (q := (RX9, TX9, 4)) (ci := 9) (k := 0) dX4_skip_74 rfl (by decide) wf_X4_89 hc.2.2.1.1 rfl (tok_r0 hc.2.2.1) ?_
      refine wa_aload_n dX4_skip_77 rfl rfl ?_
      refine wa_getI (q := (RX4, TX4, 6)) (ci := 4) (k := 3) dX4_skip_78 rfl (by decide) wf_X4_18 hc.1 rfl ?_
      rw [hj1]
      refine wa_ialdN dX4_skip_81 (tok_s0 hc.2.2.1) (Or.inl rfl) (by omega) (by decide) ?_
      rw [e1]
      refine wa_put (q := (RX4, TX4, 6)) (ci := 4) (k := 4) dX4_skip_82 rfl (by decide) wf_X4_21 rfl hc.1 rfl ?_
      rw [mm_putI]
      refine wa_aload_n dX4_skip_85 rfl rfl ?_
      refine wa_aload_n dX4_skip_86 rfl rfl ?_
      refine wa_getR (q := (RX4, TX4, 6)) (ci := 4) (k := 2) dX4_skip_87 rfl (by decide) wf_X4_27 hc.1 rfl (rf_some hc.2.1) ?_
      refine wa_getR (q := (RX9, TX9, 4)) (ci := 9) (k := 1) dX4_skip_90 rfl (by decide) wf_X4_95 hc.2.2.1.1 rfl (tok_r1 hc.2.2.1) ?_
      refine wa_aload_n dX4_skip_93 rfl rfl ?_
      refine wa_getI (q := (RX4, TX4, 6)) (ci := 4) (k := 3) dX4_skip_94 rfl (by decide) wf_X4_18 hc.1 rfl ?_
      rw [mI_ne _ _ _ _ _ (by decide), hj1]
      refine wa_ialdN dX4_skip_97 (tok_s1 hc.2.2.1) (Or.inl rfl) (by omega) (by decide) ?_
      rw [mI_na _ _ _ _ _ _ (Ne.symm hr.2.1), e2]
      refine wa_put (q := (RX4, TX4, 6)) (ci := 4) (k := 1) dX4_skip_98 rfl (by decide) wf_X4_15 rfl hc.1 rfl ?_
      rw [mm_putI]
      refine wa_aload_n dX4_skip_101 rfl rfl ?_
      refine wa_aload_n dX4_skip_102 rfl rfl ?_
      refine wa_getR (q := (RX4, TX4, 6)) (ci := 4) (k := 2) dX4_skip_103 rfl (by decide) wf_X4_27 hc.1 rfl (rf_some hc.2.1) ?_
      refine wa_getR (q := (RX9, TX9, 4)) (ci := 9) (k := 2) dX4_skip_106 rfl (by decide) wf_X4_98 hc.2.2.1.1 rfl (tok_r2 hc.2.2.1) ?_
      refine wa_aload_n dX4_skip_109 rfl rfl ?_
      refine wa_getI (q := (RX4, TX4, 6)) (ci := 4) (k := 3) dX4_skip_110 rfl (by decide) wf_X4_18 hc.1 rfl ?_
      rw [mI_ne _ _ _ _ _ (by decide), mI_ne _ _ _ _ _ (by decide), hj1]
      refine wa_ialdN dX4_skip_113 (tok_s2 hc.2.2.1) (Or.inl rfl) (by omega) (by decide) ?_
      rw [mI_na _ _ _ _ _ _ (Ne.symm hr.2.2.1), mI_na _ _ _ _ _ _ (Ne.symm hr.2.2.1), e3]
      refine wa_put (q := (RX4, TX4, 6)) (ci := 4) (k := 5) dX4_skip_114 rfl (by decide) wf_X4_24 rfl hc.1 rfl ?_
      rw [mm_putI]
      refine wa_aload_n dX4_skip_117 rfl rfl ?_
      refine wa_dup dX4_skip_118 rfl ?_
      refine wa_getI (q := (RX4, TX4, 6)) (ci := 4) (k := 3) dX4_skip_119 rfl (by decide) wf_X4_18 hc.1 rfl ?_
      rw [mI_ne _ _ _ _ _ (by decide), mI_ne _ _ _ _ _ (by decide), mI_ne _ _ _ _ _ (by decide), hj1]
      refine wa_iconst (v := 1) dX4_skip_122 (by decide) ?_
      refine wa_iadd dX4_skip_123 ?_
      rw [show nI j + 1 = nI (j + 1) from ni_i1 j]
      refine wa_put (q := (RX4, TX4, 6)) (ci := 4) (k := 3) dX4_skip_124 rfl (by decide) wf_X4_18 rfl hc.1 rfl ?_
      rw [mm_putI]
      refine wa_iconst (v := 1) dX4_skip_127 (by decide) ?_
      exact wa_zret dX4_skip_128 rfl rfl (h1 hF4 hT12)
    · refine wa_iconst (v := 0) dX4_skip_15 (by decide) ?_
      exact wa_zret dX4_skip_16 rfl rfl (h0 (fun q => by first | exact hT4 q.1 | exact hF12 q.2))

theorem k_X4_blame {G : mm_G} {d : Nat} {Q : Option Value → mm_M → Prop} {M : mm_M} {r t : Nat} {K L V : Nat → Int32} (w : Int32) (hc : rc_ K L V M r t) (h0 : ¬ mm_I M r 0 = 0 → Q none M) (h1 : mm_I M r 0 = 0 → Q none (mm_sI M r 0 w)) : ma_ G jX4_blame d 0 0 [.ref r, .int w] M Q := by
  refine ma_of [some (.ref r), some (.int w)] (by decide) rfl (Nat.le_of_ble_eq_true rfl) ?_
  refine wa_aload_n dX4_blame_0 rfl rfl ?_
  refine wa_getI (q := (RX4, TX4, 6)) (ci := 4) (k := 0) dX4_blame_1 rfl (by decide) wf_X4_9 hc.1 rfl ?_
  refine wa_if_ne (tgt := 12) dX4_blame_4 (by decide) (fun hT4 => ?_) (fun hF4 => ?_)
  · exact wa_vret dX4_blame_12 rfl (by first | exact h0 hT4 | exact h1 hF4)
  · refine wa_aload_n dX4_blame_7 rfl rfl ?_
    refine wa_iload_n dX4_blame_8 rfl ?_
    refine wa_put (q := (RX4, TX4, 6)) (ci := 4) (k := 0) dX4_blame_9 rfl (by decide) wf_X4_9 rfl hc.1 rfl ?_
    exact wa_vret dX4_blame_12 rfl (by first | exact h0 hT4 | exact h1 hF4)

def nmq_ (v : Int32) : Prop := 8 ≤ v ∧ v ≤ 11
theorem nmq_c {v : Int32} (h : nmq_ v) : v = 8 ∨ v = 9 ∨ v = 10 ∨ v = 11 := by
  obtain ⟨h1, h2⟩ := h
  obtain ⟨j, hj, rfl⟩ := nI_of2 (M := 11) (n := 11) rfl (Int32.not_lt.mpr (Int32.le_trans (by decide) h1)) h2
  have h3 := ni_le (a := 8) h1 (by decide) (by omega)
  rcases (by omega : j = 8 ∨ j = 9 ∨ j = 10 ∨ j = 11) with rfl | rfl | rfl | rfl
  · exact Or.inl rfl
  · exact Or.inr (Or.inl rfl)
  · exact Or.inr (Or.inr (Or.inl rfl))
  · exact Or.inr (Or.inr (Or.inr rfl))
theorem nmq_i {v : Int32} (h : v = 8 ∨ v = 9 ∨ v = 10 ∨ v = 11) : nmq_ v := by
  rcases h with rfl | rfl | rfl | rfl <;> (unfold nmq_; decide)
theorem nmq_pn {v : Int32} : nmq_ v ↔ pn_ v = 0 := by
  constructor
  · intro h
    rcases nmq_c h with rfl | rfl | rfl | rfl <;> decide
  · intro h
    unfold pn_ at h
    split at h
    · exact absurd h (by decide)
    · split at h
      · rename_i h2; exact nmq_i h2
      · exact absurd h (by decide)

theorem k_X4_isName {G : mm_G} {d : Nat} {Q : Option Value → mm_M → Prop} {M : mm_M} (v : Int32) (h1 : nmq_ v → Q (some (.int 1)) M) (h0 : ¬ nmq_ v → Q (some (.int 0)) M) : ma_ G jX4_isName d 0 0 [.int v] M Q := by
  refine ma_of [some (.int v)] (by decide) rfl (Nat.le_of_ble_eq_true rfl) ?_
  refine wa_iload_n dX4_isName_0 rfl ?_
  refine wa_bipush (v := 8) dX4_isName_1 (by decide) ?_
  refine wa_icmp_lt (tgt := 16) dX4_isName_3 (by decide) (fun hT3 => ?_) (fun hF3 => ?_)
  · refine wa_iconst (v := 0) dX4_isName_16 (by decide) ?_
    exact wa_zret dX4_isName_17 rfl rfl (h0 (fun q => by first | exact absurd q.1 (Int32.not_le.mpr (by assumption)) | exact absurd q.2 (Int32.not_le.mpr (by assumption))))
  · refine wa_iload_n dX4_isName_6 rfl ?_
    refine wa_bipush (v := 11) dX4_isName_7 (by decide) ?_
    refine wa_icmp_gt (tgt := 16) dX4_isName_9 (by decide) (fun hT9 => ?_) (fun hF9 => ?_)
    · refine wa_iconst (v := 0) dX4_isName_16 (by decide) ?_
      exact wa_zret dX4_isName_17 rfl rfl (h0 (fun q => by first | exact absurd q.1 (Int32.not_le.mpr (by assumption)) | exact absurd q.2 (Int32.not_le.mpr (by assumption))))
    · refine wa_iconst (v := 1) dX4_isName_12 (by decide) ?_
      refine wa_goto (tgt := 17) dX4_isName_13 (by decide) ?_
      exact wa_zret dX4_isName_17 rfl rfl (h1 ⟨Int32.not_lt.mp (by assumption), Int32.not_lt.mp (by assumption)⟩)

def rd_sp (K : Nat → Int32) (w : Int32) : (Int32 × Int32) ⊕ Nat → (Int32 × Int32) ⊕ Nat
  | .inl q => .inl q
  | .inr i => if K i = w then .inr (i + 1) else .inr i
def rd_bl (L : Nat → Int32) (c : Int32) : (Int32 × Int32) ⊕ Nat → (Int32 × Int32) ⊕ Nat
  | .inl q => .inl q
  | .inr i => .inl (c, L i)
def rd_nd (K L : Nat → Int32) (w : Int32) : (Int32 × Int32) ⊕ Nat → (Int32 × Int32) ⊕ Nat
  | .inl q => .inl q
  | .inr i => if K i = w then .inr (i + 1) else .inl (1, L i)
def rd_nn (K L : Nat → Int32) : (Int32 × Int32) ⊕ Nat → (Int32 × Int32) ⊕ Nat
  | .inl q => .inl q
  | .inr i => if pn_ (K i) = 0 then .inr (i + 1) else .inl (pn_ (K i), L i)

theorem kr_skip {G : mm_G} {d : Nat} {Q : Option Value → mm_M → Prop} {M : mm_M} {r t m : Nat} {K L V : Nat → Int32} {σ : (Int32 × Int32) ⊕ Nat} (w : Int32) (hx : rx_ m K L V M r t σ) (hw : ∀ i, σ = .inr i → K i = w → ¬ w = 0) (h1 : ∀ (i : Nat) (M' : mm_M), σ = .inr i → K i = w → nw_ (fun z => z = r) (fun _ => False) M M' → rx_ m K L V M' r t (.inr (i + 1)) → Q (some (.int 1)) M') (h0 : (∀ i, σ = .inr i → ¬ K i = w) → Q (some (.int 0)) M) : ma_ G jX4_skip d 0 0 [.ref r, .int w] M Q := by
  obtain ⟨⟨hm3, hm0⟩, hc, hs⟩ := hx
  cases σ with
  | inl q =>
    obtain ⟨s1, s2, s3⟩ := hs
    refine k_X4_skip w 0 hc (fun e => absurd (s1.symm.trans e) s2) (fun _ => h0 (fun i e => by cases e)) (fun e => absurd (s1.symm.trans e) s2)
  | inr i =>
    obtain ⟨s1, s2, s3, s4, s5, s6⟩ := hs
    have him : K i = w → i + 1 ≤ m := by
      intro e
      have h := hw i rfl e
      have : i ≠ m := fun z => h (by rw [← e, z]; exact hm0)
      omega
    refine k_X4_skip w (i + 1) hc (fun e1 e2 => ⟨s4, by have := him (s5.symm.trans e2); omega⟩) (fun h => h0 (fun j e => ?_)) (fun e1 e2 => ?_)
    · cases e
      intro e
      exact h ⟨s2, s5.trans e⟩
    · have hk := s5.symm.trans e2
      have hn : nw_ (fun z => z = r) (fun _ => False) M (rk_ M r K L V (i + 1)) := nw_I (nw_I (nw_I (nw_I (nw_rf _ _ _) (Or.inl rfl)) (Or.inl rfl)) (Or.inl rfl)) (Or.inl rfl)
      have hr := rc_r hc
      refine h1 i _ rfl hk hn ⟨⟨hm3, hm0⟩, rc_nw hn ⟨Ne.symm hr.1, Ne.symm hr.2.1, Ne.symm hr.2.2.1⟩ ⟨id, id⟩ hc, him hk, ?_, ?_, ?_, ?_, ?_⟩
      · unfold rk_; simp [mm_I_sI]; exact s2
      · unfold rk_; simp [mm_I_sI]
      · unfold rk_; simp [mm_I_sI]
      · unfold rk_; simp [mm_I_sI]
      · unfold rk_; simp [mm_I_sI]
theorem kr_skipP {G : mm_G} {d : Nat} {Q : Option Value → mm_M → Prop} {M : mm_M} {r t m : Nat} {K L V : Nat → Int32} {σ : (Int32 × Int32) ⊕ Nat} (w : Int32) (hx : rx_ m K L V M r t σ) (hw : ∀ i, σ = .inr i → K i = w → ¬ w = 0) (hQ : ∀ (v : Int32) (M' : mm_M), nw_ (fun z => z = r) (fun _ => False) M M' → rx_ m K L V M' r t (rd_sp K w σ) → Q (some (.int v)) M') : ma_ G jX4_skip d 0 0 [.ref r, .int w] M Q := by
  refine kr_skip w hx hw (fun i M' e hk hn hx' => hQ 1 M' hn ?_) (fun h => hQ 0 M (nw_rf _ _ _) ?_)
  · subst e
    rw [show rd_sp K w (.inr i) = .inr (i + 1) from if_pos hk]
    exact hx'
  · rw [show rd_sp K w σ = σ from by
      cases σ with
      | inl q => rfl
      | inr i => exact if_neg (h i rfl)]
    exact hx
theorem kr_blame {G : mm_G} {d : Nat} {Q : Option Value → mm_M → Prop} {M : mm_M} {r t m : Nat} {K L V : Nat → Int32} {σ : (Int32 × Int32) ⊕ Nat} (c : Int32) (hc0 : ¬ c = 0) (hx : rx_ m K L V M r t σ) (hQ : ∀ (M' : mm_M), nw_ (fun z => z = r) (fun _ => False) M M' → rx_ m K L V M' r t (rd_bl L c σ) → Q none M') : ma_ G jX4_blame d 0 0 [.ref r, .int c] M Q := by
  obtain ⟨hm, hc, hs⟩ := hx
  cases σ with
  | inl q =>
    obtain ⟨s1, s2, s3⟩ := hs
    exact k_X4_blame c hc (fun _ => hQ M (nw_rf _ _ _) ⟨hm, hc, s1, s2, s3⟩) (fun e => absurd (s1.symm.trans e) s2)
  | inr i =>
    obtain ⟨s1, s2, s3, s4, s5, s6⟩ := hs
    have hn : nw_ (fun z => z = r) (fun _ => False) M (mm_sI M r 0 c) := nw_I (nw_rf _ _ _) (Or.inl rfl)
    have hr := rc_r hc
    exact k_X4_blame c hc (fun e => absurd s2 e) (fun _ => hQ _ hn ⟨hm, rc_nw hn ⟨Ne.symm hr.1, Ne.symm hr.2.1, Ne.symm hr.2.2.1⟩ ⟨id, id⟩ hc, mI_eq _ _ _ _, hc0, (mI_ne _ _ _ _ _ (by decide)).trans s3⟩)
theorem rx_v {m : Nat} {K L V : Nat → Int32} {M : mm_M} {r t : Nat} {σ : (Int32 × Int32) ⊕ Nat} (h : rx_ m K L V M r t σ) : ∀ i, σ = .inr i → mm_I M r 5 = V i ∧ mm_I M r 4 = K i := by
  intro i e
  subst e
  exact ⟨h.2.2.2.2.2.2.2, h.2.2.2.2.2.2.1⟩

theorem kr_need {G : mm_G} {d : Nat} {Q : Option Value → mm_M → Prop} {M : mm_M} {r t m : Nat} {K L V : Nat → Int32} {σ : (Int32 × Int32) ⊕ Nat} (w : Int32) (hx : rx_ m K L V M r t σ) (hw : ∀ i, σ = .inr i → K i = w → ¬ w = 0) (hQ : ∀ (v : Int32) (M' : mm_M), nw_ (fun z => z = r) (fun _ => False) M M' → rx_ m K L V M' r t (rd_nd K L w σ) → (∀ i, σ = .inr i → v = V i) → Q (some (.int v)) M') : ma_ G jX4_need (d + 1) 0 0 [.ref r, .int w] M Q := by
  refine ma_of [some (.ref r), some (.int w), none] (by decide) rfl (Nat.le_of_ble_eq_true rfl) ?_
  refine wa_aload_n dX4_need_0 rfl rfl ?_
  refine wa_getI (q := (RX4, TX4, 6)) (ci := 4) (k := 5) dX4_need_1 rfl (by decide) wf_X4_24 hx.2.1.1 rfl ?_
  refine wa_istore_n dX4_need_4 (by decide) rfl rfl ?_
  refine wa_aload_n dX4_need_5 rfl rfl ?_
  refine wa_iload_n dX4_need_6 rfl ?_
  refine wa_callV  (q := (RX4, TX4, 6)) (As := [.int w]) dX4_need_7 lk_X4_31 rfl rfl hx.2.1.1 rfl rfl (Nat.le_of_ble_eq_true rfl) (Nat.le_of_eq (Nat.zero_add _)) (Nat.le_of_eq (Nat.zero_add _)) (kr_skip w hx hw (fun i1 M1 e1 hk1 hn1 hx1 => ?_) (fun hk1 => ?_))
  · refine wa_if_ne (tgt := 18) dX4_need_10 (by decide) (fun _ => ?_) (fun h9 => absurd h9 (by decide))
    refine wa_iload_n dX4_need_18 rfl ?_
    exact wa_iret dX4_need_19 rfl (by
      first
      | exact hQ _ M1 hn1 (by subst e1; rw [show rd_nd K L w (.inr i1) = .inr (i1 + 1) from if_pos hk1]; exact hx1) (fun i e => (rx_v hx i e).1)
      | exact hQ _ M2 hn2 (by
          rw [show rd_nd K L w σ = rd_bl L 1 σ from by
            cases σ with
            | inl q => rfl
            | inr i => exact if_neg (hk1 i rfl)]
          exact hx2) (fun i e => (rx_v hx i e).1))
  · refine wa_if_ne (tgt := 18) dX4_need_10 (by decide) (fun h9 => absurd h9 (by decide)) (fun _ => ?_)
    refine wa_aload_n dX4_need_13 rfl rfl ?_
    refine wa_iconst (v := 1) dX4_need_14 (by decide) ?_
    refine wa_callV  (q := (RX4, TX4, 6)) (As := [.int 1]) dX4_need_15 lk_X4_41 rfl rfl hx.2.1.1 rfl rfl (Nat.le_of_ble_eq_true rfl) (Nat.le_of_eq (Nat.zero_add _)) (Nat.le_of_eq (Nat.zero_add _)) (kr_blame 1 (by decide) hx (fun M2 hn2 hx2 => ?_))
    refine wa_iload_n dX4_need_18 rfl ?_
    exact wa_iret dX4_need_19 rfl (by
      first
      | exact hQ _ M1 hn1 (by subst e1; rw [show rd_nd K L w (.inr i1) = .inr (i1 + 1) from if_pos hk1]; exact hx1) (fun i e => (rx_v hx i e).1)
      | exact hQ _ M2 hn2 (by
          rw [show rd_nd K L w σ = rd_bl L 1 σ from by
            cases σ with
            | inl q => rfl
            | inr i => exact if_neg (hk1 i rfl)]
          exact hx2) (fun i e => (rx_v hx i e).1))

theorem kr_needName {G : mm_G} {d : Nat} {Q : Option Value → mm_M → Prop} {M : mm_M} {r t m : Nat} {K L V : Nat → Int32} {σ : (Int32 × Int32) ⊕ Nat} (hx : rx_ m K L V M r t σ) (hQ : ∀ (v : Int32) (M' : mm_M), nw_ (fun z => z = r) (fun _ => False) M M' → rx_ m K L V M' r t (rd_nn K L σ) → (∀ i, σ = .inr i → v = K i) → Q (some (.int v)) M') : ma_ G jX4_needName (d + 1) 0 0 [.ref r] M Q := by
  refine ma_of [some (.ref r), none] (by decide) rfl (Nat.le_of_ble_eq_true rfl) ?_
  obtain ⟨v, hv⟩ : ∃ v, v = mm_I M r 4 := ⟨_, rfl⟩
  have hvk : ∀ i, σ = .inr i → v = K i := fun i e => hv.trans (rx_v hx i e).2
  have s27 : ∀ (M1 : mm_M) (σ1 : (Int32 × Int32) ⊕ Nat), nw_ (fun z => z = r) (fun _ => False) M M1 → rx_ m K L V M1 r t σ1 → (∀ i, σ1 = .inr i → K i = v → ¬ v = 0) → rd_sp K v σ1 = rd_nn K L σ → wa_ 0 G jX4_needName (d + 1) 0 0 Q 0 0 M1 27 [some (.ref r), some (.int v)] [] := by
    intro M1 σ1 hn1 hx1 hw he
    refine wa_aload_n dX4_needName_27 rfl rfl ?_
    refine wa_iload_n dX4_needName_28 rfl ?_
    refine wa_callV  (q := (RX4, TX4, 6)) (As := [.int v]) dX4_needName_29 lk_X4_31 rfl rfl hx1.2.1.1 rfl rfl (Nat.le_of_ble_eq_true rfl) (Nat.le_of_eq (Nat.zero_add _)) (Nat.le_of_eq (Nat.zero_add _)) (kr_skipP v hx1 hw (fun w9 M2 hn2 hx2 => ?_))
    refine wa_pop dX4_needName_32 rfl ?_
    refine wa_iload_n dX4_needName_33 rfl ?_
    exact wa_iret dX4_needName_34 rfl (hQ v M2 (nw_tr hn1 hn2) (by rw [← he]; exact hx2) hvk)
  have s15 : ∀ (M1 : mm_M) (σ1 : (Int32 × Int32) ⊕ Nat), nw_ (fun z => z = r) (fun _ => False) M M1 → rx_ m K L V M1 r t σ1 → ((¬ v = 3 ∧ σ1 = σ) ∨ (v = 3 ∧ σ1 = rd_bl L 2 σ)) → wa_ 0 G jX4_needName (d + 1) 0 0 Q 0 0 M1 15 [some (.ref r), some (.int v)] [] := by
    intro M1 σ1 hn1 hx1 hor
    refine wa_iload_n dX4_needName_15 rfl ?_
    refine wa_callS (As := [.int v]) dX4_needName_16 lk_X4_66 rfl rfl (Nat.le_of_ble_eq_true rfl) (Nat.le_of_eq (Nat.zero_add _)) (Nat.le_of_eq (Nat.zero_add _)) (k_X4_isName v (fun hN => ?_) (fun hN => ?_))
    · refine wa_if_ne (tgt := 27) dX4_needName_19 (by decide) (fun _ => ?_) (fun h9 => absurd h9 (by decide))
      rcases hor with ⟨h3, rfl⟩ | ⟨h3, rfl⟩
      · refine s27 M1 _ hn1 hx1 (fun i e ek => ?_) ?_
        · intro e0; rw [e0] at hN; exact absurd hN (by unfold nmq_; decide)
        · cases σ1 with
          | inl q => rfl
          | inr i =>
            have hk := hvk i rfl
            show (if K i = v then Sum.inr (i + 1) else Sum.inr i) = (if pn_ (K i) = 0 then Sum.inr (i + 1) else Sum.inl (pn_ (K i), L i))
            rw [if_pos hk.symm, if_pos (nmq_pn.mp (by rw [← hk]; exact hN))]
      · rw [h3] at hN
        exact absurd hN (by unfold nmq_; decide)
    · refine wa_if_ne (tgt := 27) dX4_needName_19 (by decide) (fun h9 => absurd h9 (by decide)) (fun _ => ?_)
      refine wa_aload_n dX4_needName_22 rfl rfl ?_
      refine wa_iconst (v := 1) dX4_needName_23 (by decide) ?_
      refine wa_callV  (q := (RX4, TX4, 6)) (As := [.int 1]) dX4_needName_24 lk_X4_41 rfl rfl hx1.2.1.1 rfl rfl (Nat.le_of_ble_eq_true rfl) (Nat.le_of_eq (Nat.zero_add _)) (Nat.le_of_eq (Nat.zero_add _)) (kr_blame 1 (by decide) hx1 (fun M2 hn2 hx2 => ?_))
      refine s27 M2 _ (nw_tr hn1 hn2) hx2 (fun i e => by
        cases σ1 <;> cases e) ?_
      cases σ with
      | inl q => rcases hor with ⟨-, rfl⟩ | ⟨-, rfl⟩ <;> rfl
      | inr i =>
        have hk := hvk i rfl
        rcases hor with ⟨h3, rfl⟩ | ⟨h3, rfl⟩
        · show Sum.inl (1, L i) = rd_nn K L (.inr i)
          have hp : ¬ pn_ (K i) = 0 := fun e => hN (by rw [hk]; exact nmq_pn.mpr e)
          have hp1 : pn_ (K i) = 1 := by
            unfold pn_ at hp ⊢
            rw [if_neg (fun e => h3 (hk.trans e))] at hp ⊢
            split
            · rename_i h9; rw [if_pos h9] at hp; exact absurd rfl hp
            · rfl
          show _ = (if pn_ (K i) = 0 then (Sum.inr (i + 1) : (Int32 × Int32) ⊕ Nat) else Sum.inl (pn_ (K i), L i))
          rw [if_neg hp, hp1]
        · show Sum.inl (2, L i) = rd_nn K L (.inr i)
          rw [hk] at h3
          show _ = (if pn_ (K i) = 0 then (Sum.inr (i + 1) : (Int32 × Int32) ⊕ Nat) else Sum.inl (pn_ (K i), L i))
          rw [h3]
          rfl
  refine wa_aload_n dX4_needName_0 rfl rfl ?_
  refine wa_getI (q := (RX4, TX4, 6)) (ci := 4) (k := 4) dX4_needName_1 rfl (by decide) wf_X4_21 hx.2.1.1 rfl ?_
  rw [← hv]
  refine wa_istore_n dX4_needName_4 (by decide) rfl rfl ?_
  refine wa_iload_n dX4_needName_5 rfl ?_
  refine wa_iconst (v := 3) dX4_needName_6 (by decide) ?_
  refine wa_icmp_ne (tgt := 15) dX4_needName_7 (by decide) (fun hT7 => ?_) (fun hF7 => ?_)
  · first | exact s15 M2 _ hn2 hx2 (Or.inr ⟨hF7, rfl⟩) | exact s15 M _ (nw_rf _ _ _) hx (Or.inl ⟨hT7, rfl⟩)
  · refine wa_aload_n dX4_needName_10 rfl rfl ?_
    refine wa_iconst (v := 2) dX4_needName_11 (by decide) ?_
    refine wa_callV  (q := (RX4, TX4, 6)) (As := [.int 2]) dX4_needName_12 lk_X4_41 rfl rfl hx.2.1.1 rfl rfl (Nat.le_of_ble_eq_true rfl) (Nat.le_of_eq (Nat.zero_add _)) (Nat.le_of_eq (Nat.zero_add _)) (kr_blame 2 (by decide) hx (fun M2 hn2 hx2 => ?_))
    first | exact s15 M2 _ hn2 hx2 (Or.inr ⟨hF7, rfl⟩) | exact s15 M _ (nw_rf _ _ _) hx (Or.inl ⟨hT7, rfl⟩)
