/-! fees as functions -/
def md_cap (x : Int32) : Int32 := if 5000 < x then 5000 else x
def md_fe (M : mm_M) (y : Nat) (tn tm : Nat → Nat) (w v s p a : Int32) : Nat → Nat → Int32
  | 0, _ => -1
  | r + 1, l => if md_hn M y l w v s p a (tn l) then md_cap (md_tt M y l v s p a (tm l)) else md_fe M y tn tm w v s p a r (l + 1)
theorem md_fe_skip {M : mm_M} {y : Nat} {tn tm : Nat → Nat} {w v s p a : Int32} : ∀ (k r b : Nat), (∀ j, b ≤ j → j < b + k → md_hn M y j w v s p a (tn j) = false) → md_fe M y tn tm w v s p a (k + r) b = md_fe M y tn tm w v s p a r (b + k) := by
  intro k
  induction k with
  | zero => intro r b _; rw [Nat.zero_add, Nat.add_zero]
  | succ k ih =>
    intro r b h
    rw [show k + 1 + r = (k + r) + 1 from by omega]
    show (if md_hn M y b w v s p a (tn b) then _ else md_fe M y tn tm w v s p a (k + r) (b + 1)) = _
    rw [h b (by omega) (by omega), if_neg (by decide), ih r (b + 1) (fun j h1 h2 => h j (by omega) (by omega))]
    congr 1
    omega
def md_ft (M : mm_M) (y : Nat) (ln tn tm : Nat → Nat) (t : Nat) (w v s p a : Int32) : Int32 := md_fe M y tn tm w v s p a (ln t) (12 * t)
theorem kk_X12_feeOf {G : mm_G} {d : Nat} {Q : Option Value → mm_M → Prop} {M : mm_M} {y : Nat} (t : Nat) (ln tn tm : Nat → Nat) (w v s p a : Int32) (hY : mdl_ M y) (ht : t < 30) (hF : md_TF M y t (ln t) tn tm) (hQ : Q (some (.int (md_ft M y ln tn tm t w v s p a))) M) : ma_ G jX12_feeOf (d + 1) 0 0 [.ref y, .int (nI t), .int w, .int v, .int s, .int p, .int a] M Q := by
  refine k_X12_feeOf t (ln t) tn tm w v s p a hY ht hF (fun h => ?_) (fun l h1 h2 h3 h4 => ?_)
  · have := md_fe_skip (M := M) (y := y) (tn := tn) (tm := tm) (w := w) (v := v) (s := s) (p := p) (a := a) (ln t) 0 (12 * t) h
    rw [Nat.add_zero] at this
    unfold md_ft at hQ
    rw [this] at hQ
    exact hQ
  · have := md_fe_skip (M := M) (y := y) (tn := tn) (tm := tm) (w := w) (v := v) (s := s) (p := p) (a := a) (l - 12 * t) (ln t - (l - 12 * t)) (12 * t) (fun j h5 h6 => h3 j h5 (by omega))
    rw [show l - 12 * t + (ln t - (l - 12 * t)) = ln t from by omega, show 12 * t + (l - 12 * t) = l from by omega, show ln t - (l - 12 * t) = (ln t - (l - 12 * t) - 1) + 1 from by omega] at this
    unfold md_ft at hQ
    rw [this] at hQ
    simp only [md_fe, h4, if_true] at hQ
    exact hQ
def rf_ (x : Int32) : Int32 := if x = -1 then -10000 else x
/-- what home's own tariff would have told -/
def md_hf (M : mm_M) (y : Nat) (ln tn tm : Nat → Nat) (i : Nat) : Nat → Int32
  | 0 => -10000
  | n + 1 => if mm_I M (y + 3) n ≤ mm_I M (y + 28) i then rf_ (md_ft M y ln tn tm n (mm_I M (y + 25) i) (mm_I M (y + 26) i) (mm_I M (y + 27) i) (mm_I M (y + 24) i) (mm_I M (y + 31) i)) else md_hf M y ln tn tm i n
/-- sums of ints, as the machine adds them -/
def si_ (g : Nat → Int32) : Nat → Int32
  | 0 => 0
  | n + 1 => si_ g n + g n
theorem si_congr {g h : Nat → Int32} : ∀ n, (∀ i, i < n → g i = h i) → si_ g n = si_ h n := by
  intro n
  induction n with
  | zero => intro _; rfl
  | succ n ih => intro e; simp only [si_]; rw [ih (fun i hi => e i (by omega)), e n (by omega)]
def md_ho (M : mm_M) (y : Nat) (pq : Nat → Nat) (i : Nat) : Int32 := (mm_I M (y + 28) i + 29) / 30 * 30 + mm_I M (y + 14) (pq i)
def md_PP (M : mm_M) (y N : Nat) (pq : Nat → Nat) : Prop := mm_I M y 38 = nI N ∧ N ≤ 200 ∧ ∀ i, i < N → mm_I M (y + 24) i = nI (pq i) ∧ pq i < 8

theorem k_X12_homesFee {G : mm_G} {d : Nat} {Q : Option Value → mm_M → Prop} {M : mm_M} {y : Nat} (i T : Nat) (ln tn tm : Nat → Nat) (hY : mdl_ M y) (hi : i < 200) (hT : mm_I M y 14 = nI T) (hT30 : T ≤ 30) (hF : ∀ t, t < T → md_TF M y t (ln t) tn tm) (hQ : Q (some (.int (md_hf M y ln tn tm i T))) M) : ma_ G jX12_homesFee (d + 2) 0 0 [.ref y, .int (nI i)] M Q := by
  refine ma_of [some (.ref y), some (.int (nI i)), none, none] (by decide) rfl (Nat.le_of_ble_eq_true rfl) ?_
  have lp : ∀ (n : Nat), n ≤ T → Q (some (.int (md_hf M y ln tn tm i n))) M → wa_ 0 G jX12_homesFee (d + 2) 0 0 Q 0 0 M 7 [some (.ref y), some (.int (nI i)), some (.int (nI n - 1)), none] [] := by
    intro n
    induction n with
    | zero =>
      intro hn hq
      refine wa_iload_n dX12_homesFee_7 rfl ?_
      refine wa_if_lt (tgt := 32) dX12_homesFee_8 (by decide) (fun _ => ?_) (fun h9 => absurd h9 (by decide))
      refine wa_iload_n dX12_homesFee_32 rfl ?_
      refine wa_if_ge (tgt := 40) dX12_homesFee_33 (by decide) (fun h9 => absurd h9 (by decide)) (fun _ => ?_)
      refine wa_iconst (v := -1) dX12_homesFee_36 (by decide) ?_
      refine wa_goto (tgt := 75) dX12_homesFee_37 (by decide) ?_
      refine wa_istore_n dX12_homesFee_75 (by decide) rfl rfl ?_
      refine wa_iload_n dX12_homesFee_76 rfl ?_
      refine wa_iconst (v := -1) dX12_homesFee_77 (by decide) ?_
      refine wa_icmp_ne (tgt := 87) dX12_homesFee_78 (by decide) (fun h9 => absurd h9 (by decide)) (fun _ => ?_)
      refine wa_sipush (v := -10000) dX12_homesFee_81 (by decide) ?_
      refine wa_goto (tgt := 88) dX12_homesFee_84 (by decide) ?_
      exact wa_iret dX12_homesFee_88 rfl (hq)
    | succ n ih =>
      intro hn hq
      rw [nI_pred n]
      refine wa_iload_n dX12_homesFee_7 rfl ?_
      refine wa_if_lt (tgt := 32) dX12_homesFee_8 (by decide) (fun hT8 => absurd hT8 (nI_pos (by omega))) (fun hF8 => ?_)
      refine wa_aload_n dX12_homesFee_11 rfl rfl ?_
      refine wa_getR (q := (RX12, TX12, 50)) (ci := 12) (k := 15) dX12_homesFee_12 rfl (by decide) wf_X12_24 hY.1 rfl (md_r15 hY) ?_
      refine wa_iload_n dX12_homesFee_15 rfl ?_
      refine wa_ialdN dX12_homesFee_16 (md_s15 hY) (Or.inl rfl) (by omega) (by decide) ?_
      refine wa_aload_n dX12_homesFee_17 rfl rfl ?_
      refine wa_getR (q := (RX12, TX12, 50)) (ci := 12) (k := 43) dX12_homesFee_18 rfl (by decide) wf_X12_101 hY.1 rfl (md_r43 hY) ?_
      refine wa_iload_n dX12_homesFee_21 rfl ?_
      refine wa_ialdN dX12_homesFee_22 (md_s43 hY) (Or.inl rfl) (by omega) (by decide) ?_
      refine wa_icmp_le (tgt := 32) dX12_homesFee_23 (by decide) (fun hT23 => ?_) (fun hF23 => ?_)
      · simp only [md_hf] at hq
        rw [if_pos hT23] at hq
        refine wa_iload_n dX12_homesFee_32 rfl ?_
        refine wa_if_ge (tgt := 40) dX12_homesFee_33 (by decide) (fun hT33 => ?_) (fun hF33 => absurd (nI_pos' (by omega)) hF33)
        refine wa_aload_n dX12_homesFee_40 rfl rfl ?_
        refine wa_iload_n dX12_homesFee_41 rfl ?_
        refine wa_aload_n dX12_homesFee_42 rfl rfl ?_
        refine wa_getR (q := (RX12, TX12, 50)) (ci := 12) (k := 40) dX12_homesFee_43 rfl (by decide) wf_X12_92 hY.1 rfl (md_r40 hY) ?_
        refine wa_iload_n dX12_homesFee_46 rfl ?_
        refine wa_ialdN dX12_homesFee_47 (md_s40 hY) (Or.inl rfl) (by omega) (by decide) ?_
        refine wa_aload_n dX12_homesFee_48 rfl rfl ?_
        refine wa_getR (q := (RX12, TX12, 50)) (ci := 12) (k := 41) dX12_homesFee_49 rfl (by decide) wf_X12_95 hY.1 rfl (md_r41 hY) ?_
        refine wa_iload_n dX12_homesFee_52 rfl ?_
        refine wa_ialdN dX12_homesFee_53 (md_s41 hY) (Or.inl rfl) (by omega) (by decide) ?_
        refine wa_aload_n dX12_homesFee_54 rfl rfl ?_
        refine wa_getR (q := (RX12, TX12, 50)) (ci := 12) (k := 42) dX12_homesFee_55 rfl (by decide) wf_X12_98 hY.1 rfl (md_r42 hY) ?_
        refine wa_iload_n dX12_homesFee_58 rfl ?_
        refine wa_ialdN dX12_homesFee_59 (md_s42 hY) (Or.inl rfl) (by omega) (by decide) ?_
        refine wa_aload_n dX12_homesFee_60 rfl rfl ?_
        refine wa_getR (q := (RX12, TX12, 50)) (ci := 12) (k := 39) dX12_homesFee_61 rfl (by decide) wf_X12_89 hY.1 rfl (md_r39 hY) ?_
        refine wa_iload_n dX12_homesFee_64 rfl ?_
        refine wa_ialdN dX12_homesFee_65 (md_s39 hY) (Or.inl rfl) (by omega) (by decide) ?_
        refine wa_aload_n dX12_homesFee_66 rfl rfl ?_
        refine wa_getR (q := (RX12, TX12, 50)) (ci := 12) (k := 46) dX12_homesFee_67 rfl (by decide) wf_X12_110 hY.1 rfl (md_r46 hY) ?_
        refine wa_iload_n dX12_homesFee_70 rfl ?_
        refine wa_ialdN dX12_homesFee_71 (md_s46 hY) (Or.inl rfl) (by omega) (by decide) ?_
        refine wa_callV (q := (RX12, TX12, 50)) (As := [.int (nI n), .int (mm_I M (y + 25) i), .int (mm_I M (y + 26) i), .int (mm_I M (y + 27) i), .int (mm_I M (y + 24) i), .int (mm_I M (y + 31) i)]) dX12_homesFee_72 lk_X12_281 rfl rfl hY.1 rfl rfl (Nat.le_of_ble_eq_true rfl) (Nat.le_of_eq (Nat.zero_add _)) (Nat.le_of_eq (Nat.zero_add _)) (kk_X12_feeOf n ln tn tm _ _ _ _ _ hY (by omega) (hF n (by omega)) ?_)
        refine wa_istore_n dX12_homesFee_75 (by decide) rfl rfl ?_
        refine wa_iload_n dX12_homesFee_76 rfl ?_
        refine wa_iconst (v := -1) dX12_homesFee_77 (by decide) ?_
        refine wa_icmp_ne (tgt := 87) dX12_homesFee_78 (by decide) (fun hT78 => ?_) (fun hF78 => ?_)
        · refine wa_iload_n dX12_homesFee_87 rfl ?_
          exact wa_iret dX12_homesFee_88 rfl (by first | (rw [show rf_ (md_ft M y ln tn tm n (mm_I M (y + 25) i) (mm_I M (y + 26) i) (mm_I M (y + 27) i) (mm_I M (y + 24) i) (mm_I M (y + 31) i)) = -10000 from if_pos (by assumption)] at hq; exact hq) | (rw [show rf_ (md_ft M y ln tn tm n (mm_I M (y + 25) i) (mm_I M (y + 26) i) (mm_I M (y + 27) i) (mm_I M (y + 24) i) (mm_I M (y + 31) i)) = md_ft M y ln tn tm n (mm_I M (y + 25) i) (mm_I M (y + 26) i) (mm_I M (y + 27) i) (mm_I M (y + 24) i) (mm_I M (y + 31) i) from if_neg (by assumption)] at hq; exact hq))
        · refine wa_sipush (v := -10000) dX12_homesFee_81 (by decide) ?_
          refine wa_goto (tgt := 88) dX12_homesFee_84 (by decide) ?_
          exact wa_iret dX12_homesFee_88 rfl (by first | (rw [show rf_ (md_ft M y ln tn tm n (mm_I M (y + 25) i) (mm_I M (y + 26) i) (mm_I M (y + 27) i) (mm_I M (y + 24) i) (mm_I M (y + 31) i)) = -10000 from if_pos (by assumption)] at hq; exact hq) | (rw [show rf_ (md_ft M y ln tn tm n (mm_I M (y + 25) i) (mm_I M (y + 26) i) (mm_I M (y + 27) i) (mm_I M (y + 24) i) (mm_I M (y + 31) i)) = md_ft M y ln tn tm n (mm_I M (y + 25) i) (mm_I M (y + 26) i) (mm_I M (y + 27) i) (mm_I M (y + 24) i) (mm_I M (y + 31) i) from if_neg (by assumption)] at hq; exact hq))
      · refine wa_iinc (v := nI n - 1) dX12_homesFee_26 rfl (ni_m1 _) (by decide) rfl rfl ?_
        refine wa_goto (tgt := 7) dX12_homesFee_29 (by decide) ?_
        exact ih (by omega) (by simp only [md_hf] at hq; rw [if_neg hF23] at hq; exact hq)
  refine wa_aload_n dX12_homesFee_0 rfl rfl ?_
  refine wa_getI (q := (RX12, TX12, 50)) (ci := 12) (k := 14) dX12_homesFee_1 rfl (by decide) wf_X12_201 hY.1 rfl ?_
  rw [hT]
  refine wa_iconst (v := 1) dX12_homesFee_4 (by decide) ?_
  refine wa_isub dX12_homesFee_5 ?_
  refine wa_istore_n dX12_homesFee_6 (by decide) rfl rfl ?_
  exact lp T (Nat.le_refl _) hQ

theorem k_X12_homes {G : mm_G} {d : Nat} {Q : Option Value → mm_M → Prop} {M : mm_M} {y : Nat} (i : Int32) {M0 : mm_M} (hM0 : M0 = mm_sI M y 0 0) (hY : mdl_ M0 y) (T N : Nat) (pq : Nat → Nat) (hT : mm_I M0 y 14 = nI T) (hT30 : T ≤ 30) (ln tn tm : Nat → Nat) (hF : ∀ t, t < T → md_TF M0 y t (ln t) tn tm) (hN : md_PP M0 y N pq) (h0 : (i < 0 ∨ mm_I M0 y 38 ≤ i) → Q (some (.int (-10000))) M0) (h1 : ∀ q : Nat, i = nI q → q < N → Q (some (.int (md_hf M0 y ln tn tm q T))) M0) : ma_ G jX12_homes (d + 3) 0 0 [.ref y, .int i] M Q := by
  refine ma_of [some (.ref y), some (.int i)] (by decide) rfl (Nat.le_of_ble_eq_true rfl) ?_
  have hY0 : mdl_ M y := by subst hM0; exact hY
  refine wa_aload_n dX12_homes_0 rfl rfl ?_
  refine wa_iconst (v := 0) dX12_homes_1 (by decide) ?_
  refine wa_put (q := (RX12, TX12, 50)) (ci := 12) (k := 0) dX12_homes_2 rfl (by decide) wf_X12_123 rfl hY0.1 rfl ?_
  rw [show mm_put M y 0 (.int 0) = M0 from hM0.symm]
  refine wa_iload_n dX12_homes_5 rfl ?_
  refine wa_if_lt (tgt := 25) dX12_homes_6 (by decide) (fun hT6 => ?_) (fun hF6 => ?_)
  · refine wa_sipush (v := -10000) dX12_homes_25 (by decide) ?_
    exact wa_iret dX12_homes_28 rfl (h0 (by first | exact Or.inl (by assumption) | exact Or.inr (by assumption)))
  · refine wa_iload_n dX12_homes_9 rfl ?_
    refine wa_aload_n dX12_homes_10 rfl rfl ?_
    refine wa_getI (q := (RX12, TX12, 50)) (ci := 12) (k := 38) dX12_homes_11 rfl (by decide) wf_X12_313 hY.1 rfl ?_
    refine wa_icmp_ge (tgt := 25) dX12_homes_14 (by decide) (fun hT14 => ?_) (fun hF14 => ?_)
    · refine wa_sipush (v := -10000) dX12_homes_25 (by decide) ?_
      exact wa_iret dX12_homes_28 rfl (h0 (by first | exact Or.inl (by assumption) | exact Or.inr (by assumption)))
    · have hN2 := hN.2.1
      rw [hN.1] at hF14
      obtain ⟨q, hq, rfl⟩ := ix_of hF6 hF14 (by omega)
      refine wa_aload_n dX12_homes_17 rfl rfl ?_
      refine wa_iload_n dX12_homes_18 rfl ?_
      refine wa_callV (q := (RX12, TX12, 50)) (As := [.int (nI q)]) dX12_homes_19 lk_X12_319 rfl rfl hY.1 rfl rfl (Nat.le_of_ble_eq_true rfl) (Nat.le_of_eq (Nat.zero_add _)) (Nat.le_of_eq (Nat.zero_add _)) (k_X12_homesFee q T ln tn tm hY (by omega) hT hT30 hF ?_)
      refine wa_goto (tgt := 28) dX12_homes_22 (by decide) ?_
      exact wa_iret dX12_homes_28 rfl (h1 q rfl hq)

theorem k_X12_known {G : mm_G} {d : Nat} {Q : Option Value → mm_M → Prop} {M : mm_M} {y : Nat} (p : Int32) (dd : Int32) {M0 : mm_M} (hM0 : M0 = mm_sI M y 0 0) (hY : mdl_ M0 y) (P N : Nat) (pq : Nat → Nat) (hP : mm_I M0 y 26 = nI P) (hP8 : P ≤ 8) (hN : md_PP M0 y N pq) (hA0 : p < 0 ∨ mm_I M0 y 26 ≤ p → Q (some (.int (-1))) M0) (hB0 : dd < 0 ∨ mm_I M0 y 27 < dd → Q (some (.int (-1))) M0) (h1 : ∀ q : Nat, p = nI q → q < P → ¬ dd < 0 → dd ≤ mm_I M0 y 27 → Q (some (.int (si_ (fun i => if mm_I M0 (y + 24) i = p ∧ md_ho M0 y pq i ≤ dd then 1 else 0) N))) M0) : ma_ G jX12_known (d + 1) 0 0 [.ref y, .int p, .int dd] M Q := by
  refine ma_of [some (.ref y), some (.int p), some (.int dd), none, none] (by decide) rfl (Nat.le_of_ble_eq_true rfl) ?_
  have hY0 : mdl_ M y := by subst hM0; exact hY
  refine wa_aload_n dX12_known_0 rfl rfl ?_
  refine wa_iconst (v := 0) dX12_known_1 (by decide) ?_
  refine wa_put (q := (RX12, TX12, 50)) (ci := 12) (k := 0) dX12_known_2 rfl (by decide) wf_X12_123 rfl hY0.1 rfl ?_
  rw [show mm_put M y 0 (.int 0) = M0 from hM0.symm]
  have hN2 := hN.2.1
  have lp : ∀ q : Nat, p = nI q → q < P → Q (some (.int (si_ (fun i => if mm_I M0 (y + 24) i = p ∧ md_ho M0 y pq i ≤ dd then 1 else 0) N))) M0 → ∀ (r i : Nat), N - i = r → i ≤ N → wa_ 0 G jX12_known (d + 1) 0 0 Q 0 0 M0 32 [some (.ref y), some (.int p), some (.int dd), some (.int (si_ (fun i => if mm_I M0 (y + 24) i = p ∧ md_ho M0 y pq i ≤ dd then 1 else 0) i)), some (.int (nI i))] [] := by
    intro q hp hq hqq r
    induction r with
    | zero =>
      intro i hr hi
      have hiN : i = N := by omega
      subst hiN
      refine wa_iload dX12_known_32 rfl ?_
      refine wa_aload_n dX12_known_34 rfl rfl ?_
      refine wa_getI (q := (RX12, TX12, 50)) (ci := 12) (k := 38) dX12_known_35 rfl (by decide) wf_X12_313 hY.1 rfl ?_
      rw [hN.1]
      refine wa_icmp_ge (tgt := 76) dX12_known_38 (by decide) (fun hT38 => ?_) (fun hF38 => absurd (nI_le (Nat.le_refl _) (by omega)) hF38)
      refine wa_iload_n dX12_known_76 rfl ?_
      exact wa_iret dX12_known_77 rfl (hqq)
    | succ r ih =>
      intro i hr hi
      have key9 : ∀ v : Int32, v = (fun i => if mm_I M0 (y + 24) i = p ∧ md_ho M0 y pq i ≤ dd then 1 else 0) i → (wa_ 0 G jX12_known (d + 1) 0 0 Q 0 0 M0 32 [some (.ref y), some (.int p), some (.int dd), some (.int (si_ (fun i => if mm_I M0 (y + 24) i = p ∧ md_ho M0 y pq i ≤ dd then 1 else 0) i + v)), some (.int (nI (i + 1)))] []) := fun v hv => by
        rw [hv]
        exact ih (i + 1) (by omega) (by omega)
      refine wa_iload dX12_known_32 rfl ?_
      refine wa_aload_n dX12_known_34 rfl rfl ?_
      refine wa_getI (q := (RX12, TX12, 50)) (ci := 12) (k := 38) dX12_known_35 rfl (by decide) wf_X12_313 hY.1 rfl ?_
      rw [hN.1]
      refine wa_icmp_ge (tgt := 76) dX12_known_38 (by decide) (fun hT38 => absurd hT38 (nI_ge (by omega) (by omega))) (fun hF38 => ?_)
      refine wa_iload_n dX12_known_41 rfl ?_
      refine wa_aload_n dX12_known_42 rfl rfl ?_
      refine wa_getR (q := (RX12, TX12, 50)) (ci := 12) (k := 39) dX12_known_43 rfl (by decide) wf_X12_89 hY.1 rfl (md_r39 hY) ?_
      refine wa_iload dX12_known_46 rfl ?_
      refine wa_ialdN dX12_known_48 (md_s39 hY) (Or.inl rfl) (by omega) (by decide) ?_
      refine wa_iload_n dX12_known_49 rfl ?_
      refine wa_icmp_ne (tgt := 67) dX12_known_50 (by decide) (fun hT50 => ?_) (fun hF50 => ?_)
      · refine wa_iconst (v := 0) dX12_known_67 (by decide) ?_
        refine wa_iadd dX12_known_68 ?_
        refine wa_istore_n dX12_known_69 (by decide) rfl rfl ?_
        refine wa_iinc (v := nI (i + 1)) dX12_known_70 rfl (ni_i1 i) (by decide) rfl rfl ?_
        refine wa_goto (tgt := 32) dX12_known_73 (by decide) ?_
        exact key9 _ (by show _ = (if _ then _ else _); first | (rw [if_pos ⟨by assumption, Int32.not_lt.mp (by assumption)⟩]) | (rw [if_neg (fun z => by first | exact absurd z.1 (by assumption) | exact absurd z.2 (Int32.not_le.mpr (by assumption)))]))
      · refine wa_aload_n dX12_known_53 rfl rfl ?_
        refine wa_iload dX12_known_54 rfl ?_
        refine wa_callV (q := (RX12, TX12, 50)) (As := [.int (nI i)]) dX12_known_56 lk_X12_316 rfl rfl hY.1 rfl rfl (Nat.le_of_ble_eq_true rfl) (Nat.le_of_eq (Nat.zero_add _)) (Nat.le_of_eq (Nat.zero_add _)) (k_X12_homeOf i (pq i) hY (by omega) (hN.2.2 i (by omega)).1 (hN.2.2 i (by omega)).2 ?_)
        refine wa_iload_n dX12_known_59 rfl ?_
        refine wa_icmp_gt (tgt := 67) dX12_known_60 (by decide) (fun hT60 => ?_) (fun hF60 => ?_)
        · refine wa_iconst (v := 0) dX12_known_67 (by decide) ?_
          refine wa_iadd dX12_known_68 ?_
          refine wa_istore_n dX12_known_69 (by decide) rfl rfl ?_
          refine wa_iinc (v := nI (i + 1)) dX12_known_70 rfl (ni_i1 i) (by decide) rfl rfl ?_
          refine wa_goto (tgt := 32) dX12_known_73 (by decide) ?_
          exact key9 _ (by show _ = (if _ then _ else _); first | (rw [if_pos ⟨by assumption, Int32.not_lt.mp (by assumption)⟩]) | (rw [if_neg (fun z => by first | exact absurd z.1 (by assumption) | exact absurd z.2 (Int32.not_le.mpr (by assumption)))]))
        · refine wa_iconst (v := 1) dX12_known_63 (by decide) ?_
          refine wa_goto (tgt := 68) dX12_known_64 (by decide) ?_
          refine wa_iadd dX12_known_68 ?_
          refine wa_istore_n dX12_known_69 (by decide) rfl rfl ?_
          refine wa_iinc (v := nI (i + 1)) dX12_known_70 rfl (ni_i1 i) (by decide) rfl rfl ?_
          refine wa_goto (tgt := 32) dX12_known_73 (by decide) ?_
          exact key9 _ (by show _ = (if _ then _ else _); first | (rw [if_pos ⟨by assumption, Int32.not_lt.mp (by assumption)⟩]) | (rw [if_neg (fun z => by first | exact absurd z.1 (by assumption) | exact absurd z.2 (Int32.not_le.mpr (by assumption)))]))
  refine wa_aload_n dX12_known_5 rfl rfl ?_
  refine wa_iload_n dX12_known_6 rfl ?_
  refine wa_callV (q := (RX12, TX12, 50)) (As := [.int p]) dX12_known_7 lk_X12_262 rfl rfl hY.1 rfl rfl (Nat.le_of_ble_eq_true rfl) (Nat.le_of_eq (Nat.zero_add _)) (Nat.le_of_eq (Nat.zero_add _)) (k_X12_isPort p hY (fun hA hB => ?_) (fun hA => ?_))
  · refine wa_if_eq (tgt := 25) dX12_known_10 (by decide) (fun h9 => absurd h9 (by decide)) (fun _ => ?_)
    refine wa_iload_n dX12_known_13 rfl ?_
    refine wa_if_lt (tgt := 25) dX12_known_14 (by decide) (fun hT14 => ?_) (fun hF14 => ?_)
    · refine wa_iconst (v := -1) dX12_known_25 (by decide) ?_
      exact wa_iret dX12_known_26 rfl (by first | exact hB0 (Or.inl (by assumption)) | exact hB0 (Or.inr (Int32.not_le.mp (by assumption))) | exact hA0 hA)
    · refine wa_iload_n dX12_known_17 rfl ?_
      refine wa_aload_n dX12_known_18 rfl rfl ?_
      refine wa_getI (q := (RX12, TX12, 50)) (ci := 12) (k := 27) dX12_known_19 rfl (by decide) wf_X12_239 hY.1 rfl ?_
      refine wa_icmp_le (tgt := 27) dX12_known_22 (by decide) (fun hT22 => ?_) (fun hF22 => ?_)
      · refine wa_iconst (v := 0) dX12_known_27 (by decide) ?_
        refine wa_istore_n dX12_known_28 (by decide) rfl rfl ?_
        refine wa_iconst (v := 0) dX12_known_29 (by decide) ?_
        refine wa_istore dX12_known_30 (by decide) rfl rfl ?_
        rw [hP] at hB
        obtain ⟨q, hq, hpq⟩ := ix_of hA hB (by omega)
        exact lp q hpq hq (h1 q hpq hq (by assumption) (by assumption)) N 0 (by omega) (by omega)
      · refine wa_iconst (v := -1) dX12_known_25 (by decide) ?_
        exact wa_iret dX12_known_26 rfl (by first | exact hB0 (Or.inl (by assumption)) | exact hB0 (Or.inr (Int32.not_le.mp (by assumption))) | exact hA0 hA)
  · refine wa_if_eq (tgt := 25) dX12_known_10 (by decide) (fun _ => ?_) (fun h9 => absurd h9 (by decide))
    refine wa_iconst (v := -1) dX12_known_25 (by decide) ?_
    exact wa_iret dX12_known_26 rfl (by first | exact hB0 (Or.inl (by assumption)) | exact hB0 (Or.inr (Int32.not_le.mp (by assumption))) | exact hA0 hA)

theorem k_X12_sum {G : mm_G} {d : Nat} {Q : Option Value → mm_M → Prop} {M : mm_M} {y : Nat} (p : Int32) (dd : Int32) {M0 : mm_M} (hM0 : M0 = mm_sI M y 0 0) (hY : mdl_ M0 y) (P N : Nat) (pq : Nat → Nat) (hP : mm_I M0 y 26 = nI P) (hP8 : P ≤ 8) (hN : md_PP M0 y N pq) (hA0 : p < 0 ∨ mm_I M0 y 26 ≤ p → Q (some (.int (-1))) M0) (hB0 : dd < 0 ∨ mm_I M0 y 27 < dd → Q (some (.int (-1))) M0) (h1 : ∀ q : Nat, p = nI q → q < P → ¬ dd < 0 → dd ≤ mm_I M0 y 27 → Q (some (.int (si_ (fun i => if mm_I M0 (y + 24) i = p ∧ md_ho M0 y pq i ≤ dd then mm_I M0 (y + 29) i else 0) N))) M0) : ma_ G jX12_sum (d + 1) 0 0 [.ref y, .int p, .int dd] M Q := by
  refine ma_of [some (.ref y), some (.int p), some (.int dd), none, none] (by decide) rfl (Nat.le_of_ble_eq_true rfl) ?_
  have hY0 : mdl_ M y := by subst hM0; exact hY
  refine wa_aload_n dX12_sum_0 rfl rfl ?_
  refine wa_iconst (v := 0) dX12_sum_1 (by decide) ?_
  refine wa_put (q := (RX12, TX12, 50)) (ci := 12) (k := 0) dX12_sum_2 rfl (by decide) wf_X12_123 rfl hY0.1 rfl ?_
  rw [show mm_put M y 0 (.int 0) = M0 from hM0.symm]
  have hN2 := hN.2.1
  have lp : ∀ q : Nat, p = nI q → q < P → Q (some (.int (si_ (fun i => if mm_I M0 (y + 24) i = p ∧ md_ho M0 y pq i ≤ dd then mm_I M0 (y + 29) i else 0) N))) M0 → ∀ (r i : Nat), N - i = r → i ≤ N → wa_ 0 G jX12_sum (d + 1) 0 0 Q 0 0 M0 32 [some (.ref y), some (.int p), some (.int dd), some (.int (si_ (fun i => if mm_I M0 (y + 24) i = p ∧ md_ho M0 y pq i ≤ dd then mm_I M0 (y + 29) i else 0) i)), some (.int (nI i))] [] := by
    intro q hp hq hqq r
    induction r with
    | zero =>
      intro i hr hi
      have hiN : i = N := by omega
      subst hiN
      refine wa_iload dX12_sum_32 rfl ?_
      refine wa_aload_n dX12_sum_34 rfl rfl ?_
      refine wa_getI (q := (RX12, TX12, 50)) (ci := 12) (k := 38) dX12_sum_35 rfl (by decide) wf_X12_313 hY.1 rfl ?_
      rw [hN.1]
      refine wa_icmp_ge (tgt := 82) dX12_sum_38 (by decide) (fun hT38 => ?_) (fun hF38 => absurd (nI_le (Nat.le_refl _) (by omega)) hF38)
      refine wa_iload_n dX12_sum_82 rfl ?_
      exact wa_iret dX12_sum_83 rfl (hqq)
    | succ r ih =>
      intro i hr hi
      have key9 : ∀ v : Int32, v = (fun i => if mm_I M0 (y + 24) i = p ∧ md_ho M0 y pq i ≤ dd then mm_I M0 (y + 29) i else 0) i → (wa_ 0 G jX12_sum (d + 1) 0 0 Q 0 0 M0 32 [some (.ref y), some (.int p), some (.int dd), some (.int (si_ (fun i => if mm_I M0 (y + 24) i = p ∧ md_ho M0 y pq i ≤ dd then mm_I M0 (y + 29) i else 0) i + v)), some (.int (nI (i + 1)))] []) := fun v hv => by
        rw [hv]
        exact ih (i + 1) (by omega) (by omega)
      refine wa_iload dX12_sum_32 rfl ?_
      refine wa_aload_n dX12_sum_34 rfl rfl ?_
      refine wa_getI (q := (RX12, TX12, 50)) (ci := 12) (k := 38) dX12_sum_35 rfl (by decide) wf_X12_313 hY.1 rfl ?_
      rw [hN.1]
      refine wa_icmp_ge (tgt := 82) dX12_sum_38 (by decide) (fun hT38 => absurd hT38 (nI_ge (by omega) (by omega))) (fun hF38 => ?_)
      refine wa_iload_n dX12_sum_41 rfl ?_
      refine wa_aload_n dX12_sum_42 rfl rfl ?_
      refine wa_getR (q := (RX12, TX12, 50)) (ci := 12) (k := 39) dX12_sum_43 rfl (by decide) wf_X12_89 hY.1 rfl (md_r39 hY) ?_
      refine wa_iload dX12_sum_46 rfl ?_
      refine wa_ialdN dX12_sum_48 (md_s39 hY) (Or.inl rfl) (by omega) (by decide) ?_
      refine wa_iload_n dX12_sum_49 rfl ?_
      refine wa_icmp_ne (tgt := 73) dX12_sum_50 (by decide) (fun hT50 => ?_) (fun hF50 => ?_)
      · refine wa_iconst (v := 0) dX12_sum_73 (by decide) ?_
        refine wa_iadd dX12_sum_74 ?_
        refine wa_istore_n dX12_sum_75 (by decide) rfl rfl ?_
        refine wa_iinc (v := nI (i + 1)) dX12_sum_76 rfl (ni_i1 i) (by decide) rfl rfl ?_
        refine wa_goto (tgt := 32) dX12_sum_79 (by decide) ?_
        exact key9 _ (by show _ = (if _ then _ else _); first | (rw [if_pos ⟨by assumption, Int32.not_lt.mp (by assumption)⟩]) | (rw [if_neg (fun z => by first | exact absurd z.1 (by assumption) | exact absurd z.2 (Int32.not_le.mpr (by assumption)))]))
      · refine wa_aload_n dX12_sum_53 rfl rfl ?_
        refine wa_iload dX12_sum_54 rfl ?_
        refine wa_callV (q := (RX12, TX12, 50)) (As := [.int (nI i)]) dX12_sum_56 lk_X12_316 rfl rfl hY.1 rfl rfl (Nat.le_of_ble_eq_true rfl) (Nat.le_of_eq (Nat.zero_add _)) (Nat.le_of_eq (Nat.zero_add _)) (k_X12_homeOf i (pq i) hY (by omega) (hN.2.2 i (by omega)).1 (hN.2.2 i (by omega)).2 ?_)
        refine wa_iload_n dX12_sum_59 rfl ?_
        refine wa_icmp_gt (tgt := 73) dX12_sum_60 (by decide) (fun hT60 => ?_) (fun hF60 => ?_)
        · refine wa_iconst (v := 0) dX12_sum_73 (by decide) ?_
          refine wa_iadd dX12_sum_74 ?_
          refine wa_istore_n dX12_sum_75 (by decide) rfl rfl ?_
          refine wa_iinc (v := nI (i + 1)) dX12_sum_76 rfl (ni_i1 i) (by decide) rfl rfl ?_
          refine wa_goto (tgt := 32) dX12_sum_79 (by decide) ?_
          exact key9 _ (by show _ = (if _ then _ else _); first | (rw [if_pos ⟨by assumption, Int32.not_lt.mp (by assumption)⟩]) | (rw [if_neg (fun z => by first | exact absurd z.1 (by assumption) | exact absurd z.2 (Int32.not_le.mpr (by assumption)))]))
        · refine wa_aload_n dX12_sum_63 rfl rfl ?_
          refine wa_getR (q := (RX12, TX12, 50)) (ci := 12) (k := 44) dX12_sum_64 rfl (by decide) wf_X12_104 hY.1 rfl (md_r44 hY) ?_
          refine wa_iload dX12_sum_67 rfl ?_
          refine wa_ialdN dX12_sum_69 (md_s44 hY) (Or.inl rfl) (by omega) (by decide) ?_
          refine wa_goto (tgt := 74) dX12_sum_70 (by decide) ?_
          refine wa_iadd dX12_sum_74 ?_
          refine wa_istore_n dX12_sum_75 (by decide) rfl rfl ?_
          refine wa_iinc (v := nI (i + 1)) dX12_sum_76 rfl (ni_i1 i) (by decide) rfl rfl ?_
          refine wa_goto (tgt := 32) dX12_sum_79 (by decide) ?_
          exact key9 _ (by show _ = (if _ then _ else _); first | (rw [if_pos ⟨by assumption, Int32.not_lt.mp (by assumption)⟩]) | (rw [if_neg (fun z => by first | exact absurd z.1 (by assumption) | exact absurd z.2 (Int32.not_le.mpr (by assumption)))]))
  refine wa_aload_n dX12_sum_5 rfl rfl ?_
  refine wa_iload_n dX12_sum_6 rfl ?_
  refine wa_callV (q := (RX12, TX12, 50)) (As := [.int p]) dX12_sum_7 lk_X12_262 rfl rfl hY.1 rfl rfl (Nat.le_of_ble_eq_true rfl) (Nat.le_of_eq (Nat.zero_add _)) (Nat.le_of_eq (Nat.zero_add _)) (k_X12_isPort p hY (fun hA hB => ?_) (fun hA => ?_))
  · refine wa_if_eq (tgt := 25) dX12_sum_10 (by decide) (fun h9 => absurd h9 (by decide)) (fun _ => ?_)
    refine wa_iload_n dX12_sum_13 rfl ?_
    refine wa_if_lt (tgt := 25) dX12_sum_14 (by decide) (fun hT14 => ?_) (fun hF14 => ?_)
    · refine wa_iconst (v := -1) dX12_sum_25 (by decide) ?_
      exact wa_iret dX12_sum_26 rfl (by first | exact hB0 (Or.inl (by assumption)) | exact hB0 (Or.inr (Int32.not_le.mp (by assumption))) | exact hA0 hA)
    · refine wa_iload_n dX12_sum_17 rfl ?_
      refine wa_aload_n dX12_sum_18 rfl rfl ?_
      refine wa_getI (q := (RX12, TX12, 50)) (ci := 12) (k := 27) dX12_sum_19 rfl (by decide) wf_X12_239 hY.1 rfl ?_
      refine wa_icmp_le (tgt := 27) dX12_sum_22 (by decide) (fun hT22 => ?_) (fun hF22 => ?_)
      · refine wa_iconst (v := 0) dX12_sum_27 (by decide) ?_
        refine wa_istore_n dX12_sum_28 (by decide) rfl rfl ?_
        refine wa_iconst (v := 0) dX12_sum_29 (by decide) ?_
        refine wa_istore dX12_sum_30 (by decide) rfl rfl ?_
        rw [hP] at hB
        obtain ⟨q, hq, hpq⟩ := ix_of hA hB (by omega)
        exact lp q hpq hq (h1 q hpq hq (by assumption) (by assumption)) N 0 (by omega) (by omega)
      · refine wa_iconst (v := -1) dX12_sum_25 (by decide) ?_
        exact wa_iret dX12_sum_26 rfl (by first | exact hB0 (Or.inl (by assumption)) | exact hB0 (Or.inr (Int32.not_le.mp (by assumption))) | exact hA0 hA)
  · refine wa_if_eq (tgt := 25) dX12_sum_10 (by decide) (fun _ => ?_) (fun h9 => absurd h9 (by decide))
    refine wa_iconst (v := -1) dX12_sum_25 (by decide) ?_
    exact wa_iret dX12_sum_26 rfl (by first | exact hB0 (Or.inl (by assumption)) | exact hB0 (Or.inr (Int32.not_le.mp (by assumption))) | exact hA0 hA)

theorem k_X12_difference {G : mm_G} {d : Nat} {Q : Option Value → mm_M → Prop} {M : mm_M} {y : Nat} (p : Int32) {M0 : mm_M} (hM0 : M0 = mm_sI M y 0 0) (hY : mdl_ M0 y) (P N : Nat) (pq : Nat → Nat) (hP : mm_I M0 y 26 = nI P) (hP8 : P ≤ 8) (hN : md_PP M0 y N pq) (T : Nat) (hT : mm_I M0 y 14 = nI T) (hT30 : T ≤ 30) (ln tn tm : Nat → Nat) (hF : ∀ t, t < T → md_TF M0 y t (ln t) tn tm) (hA0 : p < 0 ∨ mm_I M0 y 26 ≤ p → Q (some (.int (0))) M0) (h1 : ∀ q : Nat, p = nI q → q < P → Q (some (.int (si_ (fun i => if mm_I M0 (y + 24) i = p ∧ md_ho M0 y pq i ≤ mm_I M0 y 27 ∧ ¬ md_hf M0 y ln tn tm i T = -10000 then mm_I M0 (y + 29) i - md_hf M0 y ln tn tm i T else 0) N))) M0) : ma_ G jX12_difference (d + 3) 0 0 [.ref y, .int p] M Q := by
  refine ma_of [some (.ref y), some (.int p), none, none] (by decide) rfl (Nat.le_of_ble_eq_true rfl) ?_
  have hY0 : mdl_ M y := by subst hM0; exact hY
  refine wa_aload_n dX12_difference_0 rfl rfl ?_
  refine wa_iconst (v := 0) dX12_difference_1 (by decide) ?_
  refine wa_put (q := (RX12, TX12, 50)) (ci := 12) (k := 0) dX12_difference_2 rfl (by decide) wf_X12_123 rfl hY0.1 rfl ?_
  rw [show mm_put M y 0 (.int 0) = M0 from hM0.symm]
  have hN2 := hN.2.1
  have lp : ∀ q : Nat, p = nI q → q < P → Q (some (.int (si_ (fun i => if mm_I M0 (y + 24) i = p ∧ md_ho M0 y pq i ≤ mm_I M0 y 27 ∧ ¬ md_hf M0 y ln tn tm i T = -10000 then mm_I M0 (y + 29) i - md_hf M0 y ln tn tm i T else 0) N))) M0 → ∀ (r i : Nat), N - i = r → i ≤ N → wa_ 0 G jX12_difference (d + 3) 0 0 Q 0 0 M0 19 [some (.ref y), some (.int p), some (.int (si_ (fun i => if mm_I M0 (y + 24) i = p ∧ md_ho M0 y pq i ≤ mm_I M0 y 27 ∧ ¬ md_hf M0 y ln tn tm i T = -10000 then mm_I M0 (y + 29) i - md_hf M0 y ln tn tm i T else 0) i)), some (.int (nI i))] [] := by
    intro q hp hq hqq r
    induction r with
    | zero =>
      intro i hr hi
      have hiN : i = N := by omega
      subst hiN
      refine wa_iload_n dX12_difference_19 rfl ?_
      refine wa_aload_n dX12_difference_20 rfl rfl ?_
      refine wa_getI (q := (RX12, TX12, 50)) (ci := 12) (k := 38) dX12_difference_21 rfl (by decide) wf_X12_313 hY.1 rfl ?_
      rw [hN.1]
      refine wa_icmp_ge (tgt := 85) dX12_difference_24 (by decide) (fun hT24 => ?_) (fun hF24 => absurd (nI_le (Nat.le_refl _) (by omega)) hF24)
      refine wa_iload_n dX12_difference_85 rfl ?_
      exact wa_iret dX12_difference_86 rfl (hqq)
    | succ r ih =>
      intro i hr hi
      have key9 : ∀ v : Int32, v = (fun i => if mm_I M0 (y + 24) i = p ∧ md_ho M0 y pq i ≤ mm_I M0 y 27 ∧ ¬ md_hf M0 y ln tn tm i T = -10000 then mm_I M0 (y + 29) i - md_hf M0 y ln tn tm i T else 0) i → (wa_ 0 G jX12_difference (d + 3) 0 0 Q 0 0 M0 19 [some (.ref y), some (.int p), some (.int (si_ (fun i => if mm_I M0 (y + 24) i = p ∧ md_ho M0 y pq i ≤ mm_I M0 y 27 ∧ ¬ md_hf M0 y ln tn tm i T = -10000 then mm_I M0 (y + 29) i - md_hf M0 y ln tn tm i T else 0) i + v)), some (.int (nI (i + 1)))] []) := fun v hv => by
        rw [hv]
        exact ih (i + 1) (by omega) (by omega)
      refine wa_iload_n dX12_difference_19 rfl ?_
      refine wa_aload_n dX12_difference_20 rfl rfl ?_
      refine wa_getI (q := (RX12, TX12, 50)) (ci := 12) (k := 38) dX12_difference_21 rfl (by decide) wf_X12_313 hY.1 rfl ?_
      rw [hN.1]
      refine wa_icmp_ge (tgt := 85) dX12_difference_24 (by decide) (fun hT24 => absurd hT24 (nI_ge (by omega) (by omega))) (fun hF24 => ?_)
      refine wa_iload_n dX12_difference_27 rfl ?_
      refine wa_aload_n dX12_difference_28 rfl rfl ?_
      refine wa_getR (q := (RX12, TX12, 50)) (ci := 12) (k := 39) dX12_difference_29 rfl (by decide) wf_X12_89 hY.1 rfl (md_r39 hY) ?_
      refine wa_iload_n dX12_difference_32 rfl ?_
      refine wa_ialdN dX12_difference_33 (md_s39 hY) (Or.inl rfl) (by omega) (by decide) ?_
      refine wa_iload_n dX12_difference_34 rfl ?_
      refine wa_icmp_ne (tgt := 76) dX12_difference_35 (by decide) (fun hT35 => ?_) (fun hF35 => ?_)
      · refine wa_iconst (v := 0) dX12_difference_76 (by decide) ?_
        refine wa_iadd dX12_difference_77 ?_
        refine wa_istore_n dX12_difference_78 (by decide) rfl rfl ?_
        refine wa_iinc (v := nI (i + 1)) dX12_difference_79 rfl (ni_i1 i) (by decide) rfl rfl ?_
        refine wa_goto (tgt := 19) dX12_difference_82 (by decide) ?_
        exact key9 _ (by show _ = (if _ then _ else _); first | (rw [if_pos ⟨by assumption, Int32.not_lt.mp (by assumption), by assumption⟩]) | (rw [if_neg (fun z => by first | exact absurd z.1 (by assumption) | exact absurd z.2.1 (Int32.not_le.mpr (by assumption)) | exact absurd (by assumption) z.2.2)]))
      · refine wa_aload_n dX12_difference_38 rfl rfl ?_
        refine wa_iload_n dX12_difference_39 rfl ?_
        refine wa_callV (q := (RX12, TX12, 50)) (As := [.int (nI i)]) dX12_difference_40 lk_X12_316 rfl rfl hY.1 rfl rfl (Nat.le_of_ble_eq_true rfl) (Nat.le_of_eq (Nat.zero_add _)) (Nat.le_of_eq (Nat.zero_add _)) (k_X12_homeOf i (pq i) hY (by omega) (hN.2.2 i (by omega)).1 (hN.2.2 i (by omega)).2 ?_)
        refine wa_aload_n dX12_difference_43 rfl rfl ?_
        refine wa_getI (q := (RX12, TX12, 50)) (ci := 12) (k := 27) dX12_difference_44 rfl (by decide) wf_X12_239 hY.1 rfl ?_
        refine wa_icmp_gt (tgt := 76) dX12_difference_47 (by decide) (fun hT47 => ?_) (fun hF47 => ?_)
        · refine wa_iconst (v := 0) dX12_difference_76 (by decide) ?_
          refine wa_iadd dX12_difference_77 ?_
          refine wa_istore_n dX12_difference_78 (by decide) rfl rfl ?_
          refine wa_iinc (v := nI (i + 1)) dX12_difference_79 rfl (ni_i1 i) (by decide) rfl rfl ?_
          refine wa_goto (tgt := 19) dX12_difference_82 (by decide) ?_
          exact key9 _ (by show _ = (if _ then _ else _); first | (rw [if_pos ⟨by assumption, Int32.not_lt.mp (by assumption), by assumption⟩]) | (rw [if_neg (fun z => by first | exact absurd z.1 (by assumption) | exact absurd z.2.1 (Int32.not_le.mpr (by assumption)) | exact absurd (by assumption) z.2.2)]))
        · refine wa_aload_n dX12_difference_50 rfl rfl ?_
          refine wa_iload_n dX12_difference_51 rfl ?_
          refine wa_callV (q := (RX12, TX12, 50)) (As := [.int (nI i)]) dX12_difference_52 lk_X12_319 rfl rfl hY.1 rfl rfl (Nat.le_of_ble_eq_true rfl) (Nat.le_of_eq (Nat.zero_add _)) (Nat.le_of_eq (Nat.zero_add _)) (k_X12_homesFee i T ln tn tm hY (by omega) hT hT30 hF ?_)
          refine wa_sipush (v := -10000) dX12_difference_55 (by decide) ?_
          refine wa_icmp_eq (tgt := 76) dX12_difference_58 (by decide) (fun hT58 => ?_) (fun hF58 => ?_)
          · refine wa_iconst (v := 0) dX12_difference_76 (by decide) ?_
            refine wa_iadd dX12_difference_77 ?_
            refine wa_istore_n dX12_difference_78 (by decide) rfl rfl ?_
            refine wa_iinc (v := nI (i + 1)) dX12_difference_79 rfl (ni_i1 i) (by decide) rfl rfl ?_
            refine wa_goto (tgt := 19) dX12_difference_82 (by decide) ?_
            exact key9 _ (by show _ = (if _ then _ else _); first | (rw [if_pos ⟨by assumption, Int32.not_lt.mp (by assumption), by assumption⟩]) | (rw [if_neg (fun z => by first | exact absurd z.1 (by assumption) | exact absurd z.2.1 (Int32.not_le.mpr (by assumption)) | exact absurd (by assumption) z.2.2)]))
          · refine wa_aload_n dX12_difference_61 rfl rfl ?_
            refine wa_getR (q := (RX12, TX12, 50)) (ci := 12) (k := 44) dX12_difference_62 rfl (by decide) wf_X12_104 hY.1 rfl (md_r44 hY) ?_
            refine wa_iload_n dX12_difference_65 rfl ?_
            refine wa_ialdN dX12_difference_66 (md_s44 hY) (Or.inl rfl) (by omega) (by decide) ?_
            refine wa_aload_n dX12_difference_67 rfl rfl ?_
            refine wa_iload_n dX12_difference_68 rfl ?_
            refine wa_callV (q := (RX12, TX12, 50)) (As := [.int (nI i)]) dX12_difference_69 lk_X12_319 rfl rfl hY.1 rfl rfl (Nat.le_of_ble_eq_true rfl) (Nat.le_of_eq (Nat.zero_add _)) (Nat.le_of_eq (Nat.zero_add _)) (k_X12_homesFee i T ln tn tm hY (by omega) hT hT30 hF ?_)
            refine wa_isub dX12_difference_72 ?_
            refine wa_goto (tgt := 77) dX12_difference_73 (by decide) ?_
            refine wa_iadd dX12_difference_77 ?_
            refine wa_istore_n dX12_difference_78 (by decide) rfl rfl ?_
            refine wa_iinc (v := nI (i + 1)) dX12_difference_79 rfl (ni_i1 i) (by decide) rfl rfl ?_
            refine wa_goto (tgt := 19) dX12_difference_82 (by decide) ?_
            exact key9 _ (by show _ = (if _ then _ else _); first | (rw [if_pos ⟨by assumption, Int32.not_lt.mp (by assumption), by assumption⟩]) | (rw [if_neg (fun z => by first | exact absurd z.1 (by assumption) | exact absurd z.2.1 (Int32.not_le.mpr (by assumption)) | exact absurd (by assumption) z.2.2)]))
  refine wa_aload_n dX12_difference_5 rfl rfl ?_
  refine wa_iload_n dX12_difference_6 rfl ?_
  refine wa_callV (q := (RX12, TX12, 50)) (As := [.int p]) dX12_difference_7 lk_X12_262 rfl rfl hY.1 rfl rfl (Nat.le_of_ble_eq_true rfl) (Nat.le_of_eq (Nat.zero_add _)) (Nat.le_of_eq (Nat.zero_add _)) (k_X12_isPort p hY (fun hA hB => ?_) (fun hA => ?_))
  · refine wa_if_ne (tgt := 15) dX12_difference_10 (by decide) (fun _ => ?_) (fun h9 => absurd h9 (by decide))
    refine wa_iconst (v := 0) dX12_difference_15 (by decide) ?_
    refine wa_istore_n dX12_difference_16 (by decide) rfl rfl ?_
    refine wa_iconst (v := 0) dX12_difference_17 (by decide) ?_
    refine wa_istore_n dX12_difference_18 (by decide) rfl rfl ?_
    rw [hP] at hB
    obtain ⟨q, hq, hpq⟩ := ix_of hA hB (by omega)
    exact lp q hpq hq (h1 q hpq hq) N 0 (by omega) (by omega)
  · refine wa_if_ne (tgt := 15) dX12_difference_10 (by decide) (fun h9 => absurd h9 (by decide)) (fun _ => ?_)
    refine wa_iconst (v := 0) dX12_difference_13 (by decide) ?_
    exact wa_iret dX12_difference_14 rfl (hA0 hA)

theorem k_X12_unlike {G : mm_G} {d : Nat} {Q : Option Value → mm_M → Prop} {M : mm_M} {y : Nat} (p : Int32) {M0 : mm_M} (hM0 : M0 = mm_sI M y 0 0) (hY : mdl_ M0 y) (P N : Nat) (pq : Nat → Nat) (hP : mm_I M0 y 26 = nI P) (hP8 : P ≤ 8) (hN : md_PP M0 y N pq) (T : Nat) (hT : mm_I M0 y 14 = nI T) (hT30 : T ≤ 30) (ln tn tm : Nat → Nat) (hF : ∀ t, t < T → md_TF M0 y t (ln t) tn tm) (hA0 : p < 0 ∨ mm_I M0 y 26 ≤ p → Q (some (.int (-1))) M0) (h1 : ∀ q : Nat, p = nI q → q < P → Q (some (.int (si_ (fun i => if mm_I M0 (y + 24) i = p ∧ md_ho M0 y pq i ≤ mm_I M0 y 27 ∧ ¬ md_hf M0 y ln tn tm i T = mm_I M0 (y + 29) i then 1 else 0) N))) M0) : ma_ G jX12_unlike (d + 3) 0 0 [.ref y, .int p] M Q := by
  refine ma_of [some (.ref y), some (.int p), none, none] (by decide) rfl (Nat.le_of_ble_eq_true rfl) ?_
  have hY0 : mdl_ M y := by subst hM0; exact hY
  refine wa_aload_n dX12_unlike_0 rfl rfl ?_
  refine wa_iconst (v := 0) dX12_unlike_1 (by decide) ?_
  refine wa_put (q := (RX12, TX12, 50)) (ci := 12) (k := 0) dX12_unlike_2 rfl (by decide) wf_X12_123 rfl hY0.1 rfl ?_
  rw [show mm_put M y 0 (.int 0) = M0 from hM0.symm]
  have hN2 := hN.2.1
  have lp : ∀ q : Nat, p = nI q → q < P → Q (some (.int (si_ (fun i => if mm_I M0 (y + 24) i = p ∧ md_ho M0 y pq i ≤ mm_I M0 y 27 ∧ ¬ md_hf M0 y ln tn tm i T = mm_I M0 (y + 29) i then 1 else 0) N))) M0 → ∀ (r i : Nat), N - i = r → i ≤ N → wa_ 0 G jX12_unlike (d + 3) 0 0 Q 0 0 M0 19 [some (.ref y), some (.int p), some (.int (si_ (fun i => if mm_I M0 (y + 24) i = p ∧ md_ho M0 y pq i ≤ mm_I M0 y 27 ∧ ¬ md_hf M0 y ln tn tm i T = mm_I M0 (y + 29) i then 1 else 0) i)), some (.int (nI i))] [] := by
    intro q hp hq hqq r
    induction r with
    | zero =>
      intro i hr hi
      have hiN : i = N := by omega
      subst hiN
      refine wa_iload_n dX12_unlike_19 rfl ?_
      refine wa_aload_n dX12_unlike_20 rfl rfl ?_
      refine wa_getI (q := (RX12, TX12, 50)) (ci := 12) (k := 38) dX12_unlike_21 rfl (by decide) wf_X12_313 hY.1 rfl ?_
      rw [hN.1]
      refine wa_icmp_ge (tgt := 77) dX12_unlike_24 (by decide) (fun hT24 => ?_) (fun hF24 => absurd (nI_le (Nat.le_refl _) (by omega)) hF24)
      refine wa_iload_n dX12_unlike_77 rfl ?_
      exact wa_iret dX12_unlike_78 rfl (hqq)
    | succ r ih =>
      intro i hr hi
      have key9 : ∀ v : Int32, v = (fun i => if mm_I M0 (y + 24) i = p ∧ md_ho M0 y pq i ≤ mm_I M0 y 27 ∧ ¬ md_hf M0 y ln tn tm i T = mm_I M0 (y + 29) i then 1 else 0) i → (wa_ 0 G jX12_unlike (d + 3) 0 0 Q 0 0 M0 19 [some (.ref y), some (.int p), some (.int (si_ (fun i => if mm_I M0 (y + 24) i = p ∧ md_ho M0 y pq i ≤ mm_I M0 y 27 ∧ ¬ md_hf M0 y ln tn tm i T = mm_I M0 (y + 29) i then 1 else 0) i + v)), some (.int (nI (i + 1)))] []) := fun v hv => by
        rw [hv]
        exact ih (i + 1) (by omega) (by omega)
      refine wa_iload_n dX12_unlike_19 rfl ?_
      refine wa_aload_n dX12_unlike_20 rfl rfl ?_
      refine wa_getI (q := (RX12, TX12, 50)) (ci := 12) (k := 38) dX12_unlike_21 rfl (by decide) wf_X12_313 hY.1 rfl ?_
      rw [hN.1]
      refine wa_icmp_ge (tgt := 77) dX12_unlike_24 (by decide) (fun hT24 => absurd hT24 (nI_ge (by omega) (by omega))) (fun hF24 => ?_)
      refine wa_iload_n dX12_unlike_27 rfl ?_
      refine wa_aload_n dX12_unlike_28 rfl rfl ?_
      refine wa_getR (q := (RX12, TX12, 50)) (ci := 12) (k := 39) dX12_unlike_29 rfl (by decide) wf_X12_89 hY.1 rfl (md_r39 hY) ?_
      refine wa_iload_n dX12_unlike_32 rfl ?_
      refine wa_ialdN dX12_unlike_33 (md_s39 hY) (Or.inl rfl) (by omega) (by decide) ?_
      refine wa_iload_n dX12_unlike_34 rfl ?_
      refine wa_icmp_ne (tgt := 68) dX12_unlike_35 (by decide) (fun hT35 => ?_) (fun hF35 => ?_)
      · refine wa_iconst (v := 0) dX12_unlike_68 (by decide) ?_
        refine wa_iadd dX12_unlike_69 ?_
        refine wa_istore_n dX12_unlike_70 (by decide) rfl rfl ?_
        refine wa_iinc (v := nI (i + 1)) dX12_unlike_71 rfl (ni_i1 i) (by decide) rfl rfl ?_
        refine wa_goto (tgt := 19) dX12_unlike_74 (by decide) ?_
        exact key9 _ (by show _ = (if _ then _ else _); first | (rw [if_pos ⟨by assumption, Int32.not_lt.mp (by assumption), by assumption⟩]) | (rw [if_neg (fun z => by first | exact absurd z.1 (by assumption) | exact absurd z.2.1 (Int32.not_le.mpr (by assumption)) | exact absurd (by assumption) z.2.2)]))
      · refine wa_aload_n dX12_unlike_38 rfl rfl ?_
        refine wa_iload_n dX12_unlike_39 rfl ?_
        refine wa_callV (q := (RX12, TX12, 50)) (As := [.int (nI i)]) dX12_unlike_40 lk_X12_316 rfl rfl hY.1 rfl rfl (Nat.le_of_ble_eq_true rfl) (Nat.le_of_eq (Nat.zero_add _)) (Nat.le_of_eq (Nat.zero_add _)) (k_X12_homeOf i (pq i) hY (by omega) (hN.2.2 i (by omega)).1 (hN.2.2 i (by omega)).2 ?_)
        refine wa_aload_n dX12_unlike_43 rfl rfl ?_
        refine wa_getI (q := (RX12, TX12, 50)) (ci := 12) (k := 27) dX12_unlike_44 rfl (by decide) wf_X12_239 hY.1 rfl ?_
        refine wa_icmp_gt (tgt := 68) dX12_unlike_47 (by decide) (fun hT47 => ?_) (fun hF47 => ?_)
        · refine wa_iconst (v := 0) dX12_unlike_68 (by decide) ?_
          refine wa_iadd dX12_unlike_69 ?_
          refine wa_istore_n dX12_unlike_70 (by decide) rfl rfl ?_
          refine wa_iinc (v := nI (i + 1)) dX12_unlike_71 rfl (ni_i1 i) (by decide) rfl rfl ?_
          refine wa_goto (tgt := 19) dX12_unlike_74 (by decide) ?_
          exact key9 _ (by show _ = (if _ then _ else _); first | (rw [if_pos ⟨by assumption, Int32.not_lt.mp (by assumption), by assumption⟩]) | (rw [if_neg (fun z => by first | exact absurd z.1 (by assumption) | exact absurd z.2.1 (Int32.not_le.mpr (by assumption)) | exact absurd (by assumption) z.2.2)]))
        · refine wa_aload_n dX12_unlike_50 rfl rfl ?_
          refine wa_iload_n dX12_unlike_51 rfl ?_
          refine wa_callV (q := (RX12, TX12, 50)) (As := [.int (nI i)]) dX12_unlike_52 lk_X12_319 rfl rfl hY.1 rfl rfl (Nat.le_of_ble_eq_true rfl) (Nat.le_of_eq (Nat.zero_add _)) (Nat.le_of_eq (Nat.zero_add _)) (k_X12_homesFee i T ln tn tm hY (by omega) hT hT30 hF ?_)
          refine wa_aload_n dX12_unlike_55 rfl rfl ?_
          refine wa_getR (q := (RX12, TX12, 50)) (ci := 12) (k := 44) dX12_unlike_56 rfl (by decide) wf_X12_104 hY.1 rfl (md_r44 hY) ?_
          refine wa_iload_n dX12_unlike_59 rfl ?_
          refine wa_ialdN dX12_unlike_60 (md_s44 hY) (Or.inl rfl) (by omega) (by decide) ?_
          refine wa_icmp_eq (tgt := 68) dX12_unlike_61 (by decide) (fun hT61 => ?_) (fun hF61 => ?_)
          · refine wa_iconst (v := 0) dX12_unlike_68 (by decide) ?_
            refine wa_iadd dX12_unlike_69 ?_
            refine wa_istore_n dX12_unlike_70 (by decide) rfl rfl ?_
            refine wa_iinc (v := nI (i + 1)) dX12_unlike_71 rfl (ni_i1 i) (by decide) rfl rfl ?_
            refine wa_goto (tgt := 19) dX12_unlike_74 (by decide) ?_
            exact key9 _ (by show _ = (if _ then _ else _); first | (rw [if_pos ⟨by assumption, Int32.not_lt.mp (by assumption), by assumption⟩]) | (rw [if_neg (fun z => by first | exact absurd z.1 (by assumption) | exact absurd z.2.1 (Int32.not_le.mpr (by assumption)) | exact absurd (by assumption) z.2.2)]))
          · refine wa_iconst (v := 1) dX12_unlike_64 (by decide) ?_
            refine wa_goto (tgt := 69) dX12_unlike_65 (by decide) ?_
            refine wa_iadd dX12_unlike_69 ?_
            refine wa_istore_n dX12_unlike_70 (by decide) rfl rfl ?_
            refine wa_iinc (v := nI (i + 1)) dX12_unlike_71 rfl (ni_i1 i) (by decide) rfl rfl ?_
            refine wa_goto (tgt := 19) dX12_unlike_74 (by decide) ?_
            exact key9 _ (by show _ = (if _ then _ else _); first | (rw [if_pos ⟨by assumption, Int32.not_lt.mp (by assumption), by assumption⟩]) | (rw [if_neg (fun z => by first | exact absurd z.1 (by assumption) | exact absurd z.2.1 (Int32.not_le.mpr (by assumption)) | exact absurd (by assumption) z.2.2)]))
  refine wa_aload_n dX12_unlike_5 rfl rfl ?_
  refine wa_iload_n dX12_unlike_6 rfl ?_
  refine wa_callV (q := (RX12, TX12, 50)) (As := [.int p]) dX12_unlike_7 lk_X12_262 rfl rfl hY.1 rfl rfl (Nat.le_of_ble_eq_true rfl) (Nat.le_of_eq (Nat.zero_add _)) (Nat.le_of_eq (Nat.zero_add _)) (k_X12_isPort p hY (fun hA hB => ?_) (fun hA => ?_))
  · refine wa_if_ne (tgt := 15) dX12_unlike_10 (by decide) (fun _ => ?_) (fun h9 => absurd h9 (by decide))
    refine wa_iconst (v := 0) dX12_unlike_15 (by decide) ?_
    refine wa_istore_n dX12_unlike_16 (by decide) rfl rfl ?_
    refine wa_iconst (v := 0) dX12_unlike_17 (by decide) ?_
    refine wa_istore_n dX12_unlike_18 (by decide) rfl rfl ?_
    rw [hP] at hB
    obtain ⟨q, hq, hpq⟩ := ix_of hA hB (by omega)
    exact lp q hpq hq (h1 q hpq hq) N 0 (by omega) (by omega)
  · refine wa_if_ne (tgt := 15) dX12_unlike_10 (by decide) (fun h9 => absurd h9 (by decide)) (fun _ => ?_)
    refine wa_iconst (v := -1) dX12_unlike_13 (by decide) ?_
    exact wa_iret dX12_unlike_14 rfl (hA0 hA)
