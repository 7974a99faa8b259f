theorem k_X0_fewest {G : mm_G} {d : Nat} {Q : Option Value → mm_M → Prop} {M : mm_M} {c w0 s0 sa fee : Nat} {st : Nat → Nat} (hG0 : G.2.2.2.1 0 = .ref w0) (hG1 : G.2.2.2.1 1 = .ref s0) (hsc : sa ≠ c + 1) (hstb : ∀ i, st i ≤ 10000) (hf : fee ≤ 5000) (hcx : cx_ M c w0 s0) (hst : cst_ M sa st) (h0 : (∀ n, ¬ fz_ st fee n) → ∀ M' : mm_M, nw_ (fun z => z = c ∨ z = c + 1) (fun z => z = c) M M' → cx_ M' c w0 s0 → Q (some .null) M') (h1 : ∀ (n : Nat → Nat) (a : Nat) (M' : mm_M), opt_ st fee n → nw_ (fun z => z = c ∨ z = c + 1) (fun z => z = c) M M' → cx_ M' c w0 s0 → cst_ M' sa st → mm_sh M' a = some (.inr (0, 5)) → (∀ u, ¬ mm_sh M a = some u) → a ≠ c + 1 → (∀ i, i < 5 → mm_I M' a i = nI (n i)) → Q (some (.ref a)) M') : ma_ G jX0_fewest (d + 8) 12 60 [.ref c, .ref sa, .int (nI fee)] M Q := by
  refine ma_of [some (.ref c), some (.ref sa), some (.int (nI fee))] (by decide) rfl (Nat.le_of_ble_eq_true rfl) ?_
  have hn1 : nw_ (fun z => z = c ∨ z = c + 1) (fun z => z = c) M (mm_sI (mm_sR M c 1 none) c 2 0) := nw_I (nw_R (nw_rf _ _ _) (Or.inl rfl)) (Or.inl (Or.inl rfl))
  have hw0 : ¬ w0 = c := fun e => by have h := hcx.2.2.2.1; rw [e, hcx.1] at h; cases h
  have hs0 : ¬ s0 = c := fun e => by have h := hcx.2.2.2.2.2.1; rw [e, hcx.1] at h; cases h
  have hsa0 : ¬ sa = c := fun e => by have h := hst.1; rw [e, hcx.1] at h; cases h
  have hcx1 : cx_ (mm_sI (mm_sR M c 1 none) c 2 0) c w0 s0 := ⟨hcx.1, (mR_ne _ _ _ _ _ (by decide)).trans hcx.2.1, hcx.2.2.1, hcx.2.2.2.1, fun i hi => (mI_na _ _ _ _ _ _ hw0).trans (hcx.2.2.2.2.1 i hi), hcx.2.2.2.2.2.1, fun i hi => (mI_na _ _ _ _ _ _ hs0).trans (hcx.2.2.2.2.2.2 i hi)⟩
  have hst1 : cst_ (mm_sI (mm_sR M c 1 none) c 2 0) sa st := ⟨hst.1, fun i hi => (mI_na _ _ _ _ _ _ hsa0).trans (hst.2 i hi)⟩
  have hbs1 : bs_ M (mm_sI (mm_sR M c 1 none) c 2 0) c none := mR_eq _ _ _ _
  obtain ⟨a1, a2⟩ := dfs_ok (st := st) hf
  refine wa_aload_n dX0_fewest_0 rfl rfl ?_
  refine wa_null dX0_fewest_1 ?_
  refine wa_put (q := (RX0, TX0, 3)) (ci := 0) (k := 1) dX0_fewest_2 rfl (by decide) wf_X0_18 rfl hcx.1 rfl ?_
  rw [mm_putN]
  refine wa_aload_n dX0_fewest_5 rfl rfl ?_
  refine wa_iconst (v := 0) dX0_fewest_6 (by decide) ?_
  refine wa_put (q := (RX0, TX0, 3)) (ci := 0) (k := 2) dX0_fewest_7 rfl (by decide) wf_X0_21 rfl hcx.1 rfl ?_
  rw [mm_putI]
  refine wa_aload_n dX0_fewest_10 rfl rfl ?_
  refine wa_aload_n dX0_fewest_11 rfl rfl ?_
  refine wa_getsN (k := 0) (host := "ConsulDesk") dX0_fewest_12 rfl (by decide) hG0 ?_
  refine wa_alen dX0_fewest_15 hcx1.2.2.2.1 ?_
  refine wa_iconst (v := 1) dX0_fewest_16 (by decide) ?_
  refine wa_isub dX0_fewest_17 ?_
  refine wa_iload_n dX0_fewest_18 rfl ?_
  refine wa_iconst (v := 0) dX0_fewest_19 (by decide) ?_
  refine wa_callS (kc' := 0) (ks' := 0) (As := [.ref c, .ref sa, .int (nI 5 - 1), .int (nI fee), .int (nI 0)]) dX0_fewest_20 lk_X0_25 rfl rfl (Nat.le_of_ble_eq_true rfl) (by decide) (by decide) (tryW hG0 hG1 hsc hstb 5 (Nat.le_refl _) d _ _ (fun _ => 0) fee 0 none hn1 hcx1 hst1 (by omega) (fun i h1 h2 => absurd h2 (by omega)) hbs1 (fun M2 n2 c2 s2 t2 b2 => ?_))
  cases hr : tw_ st 5 (fun _ => 0) fee 0 none with
  | none =>
    rw [hr] at b2
    refine wa_aload_n dX0_fewest_23 rfl rfl ?_
    refine wa_getR (q := (RX0, TX0, 3)) (ci := 0) (k := 1) dX0_fewest_24 rfl (by decide) wf_X0_18 c2.1 rfl (rf_none b2) ?_
    exact wa_aret dX0_fewest_27 rfl (Or.inr ⟨_, rfl⟩) rfl (h0 (a1 hr) M2 n2 c2)
  | some q =>
    obtain ⟨ab, b3, b4, b5, b6, b7, b8, b9⟩ := bs_some b2 hr
    refine wa_aload_n dX0_fewest_23 rfl rfl ?_
    refine wa_getR (q := (RX0, TX0, 3)) (ci := 0) (k := 1) dX0_fewest_24 rfl (by decide) wf_X0_18 c2.1 rfl (rf_some b3) ?_
    exact wa_aret dX0_fewest_27 rfl (Or.inr ⟨_, rfl⟩) rfl (h1 q.1 ab M2 (a2 q hr).1 n2 c2 s2 b4 b6 b5 b7)

/-- a new paper -/
def pnw_ (M : mm_M) (a : Nat) (p k v s h : Int32) : mm_M := mm_sI (mm_sI (mm_sI (mm_sI (mm_sI (mm_sR (mm_sI (mm_sI (mm_sI M a 5 0) a 6 0) a 7 0) a 8 none) a 0 p) a 1 k) a 2 v) a 3 s) a 4 h
theorem pnw_pf {M : mm_M} {a : Nat} {p k v s h : Int32} (ha : mm_sh M a = some (.inl 2)) : pf_ (pnw_ M a p k v s h) a k v s p h := by
  refine ⟨ha, ?_, ?_, ?_, ?_, ?_⟩ <;> (unfold pnw_; simp [mm_I_sI])
theorem pnw_nw {X Y : Nat → Prop} {A B : mm_M} {a : Nat} {p k v s h : Int32} (g : nw_ X Y A B) (ha : ∀ u, ¬ mm_sh A a = some u) : nw_ X Y A (pnw_ B a p k v s h) := nw_I (nw_I (nw_I (nw_I (nw_I (nw_R (nw_I (nw_I (nw_I g (Or.inr ha)) (Or.inr ha)) (Or.inr ha)) (Or.inr ha)) (Or.inr ha)) (Or.inr ha)) (Or.inr ha)) (Or.inr ha)) (Or.inr ha)
theorem pnw_z {M : mm_M} {a : Nat} {p k v s h : Int32} : mm_z (pnw_ M a p k v s h) = mm_z M := rfl
theorem dTL_nw {X Y : Nat → Prop} {M M' : mm_M} {x T : Nat} {ta la : Nat → Nat} {tl : Nat → List ps_L} (h : nw_ X Y M M') (h8 : mm_I M' x 8 = mm_I M x 8) (hx : dsk_ M x) (hX : ∀ a, X a → ¬ mm_sh M a = some (.inl 1) ∧ ¬ mm_sh M a = some (.inl 7) ∧ ¬ mm_sh M a = some (.inl 8)) (hY : ∀ a, Y a → ¬ mm_sh M a = some (.inl 1) ∧ ¬ mm_sh M a = some (.inr (9, 4)) ∧ ¬ mm_sh M a = some (.inr (8, 4))) (hY2 : ∀ a, Y a → ¬ mm_sh M a = some (.inr (4, 12)) ∧ ¬ mm_sh M a = some (.inl 6) ∧ ¬ mm_sh M a = some (.inr (7, 30))) (c : dTL_ M x T ta la tl) : dTL_ M' x T ta la tl := by
  refine ⟨h8.trans c.1, c.2.1, fun t ht => ?_⟩
  obtain ⟨c1, c2, c3, c4, c5⟩ := c.2.2 t ht
  refine ⟨?_, (h _ _ c2).1, ?_, (h _ _ c4).1, lsl_nw2 h c4 hX hY (fun z => (hY2 _ z).1 c4) c5⟩
  · rw [(h _ _ (dsk_s1 hx)).2.2.2 (fun z => (hY2 _ z).2.2 (dsk_s1 hx))]; exact c1
  · rw [(h _ _ c2).2.2.2 (fun z => (hY2 _ z).2.1 c2)]; exact c3
def fee_F (M M' : mm_M) (x : Nat) (tr : Int32) : Prop := nw_ (fun z => z = x) (fun _ => False) M M' ∧ mm_I M' x 11 = tr ∧ ∀ j, j ≠ 11 → mm_I M' x j = mm_I M x j

theorem k_X10_fee {G : mm_G} {d : Nat} {Q : Option Value → mm_M → Prop} {M : mm_M} {x : Nat} (r : Int32) (p : Int32) (k : Int32) (v : Int32) (s : Int32) (P T : Nat) (pa : Nat → Nat) (hx : dsk_ M x) (hP : dP_ M x P T pa) (ta la : Nat → Nat) (tl : Nat → List ps_L) (hT : dTL_ M x T ta la tl) (hv : vtl_ T tl) (h0 : (r < 0 ∨ nI T ≤ r) ∨ (p < 0 ∨ nI P ≤ p) → Q (some (.int (-1))) (mm_sI M x 11 1)) (h2 : ∀ t q : Nat, r = nI t → t < T → p = nI q → q < P → ¬ (0 ≤ k ∧ k ≤ 9 ∧ 0 ≤ v ∧ v ≤ 9999 ∧ 1 ≤ s ∧ s ≤ 99) → Q (some (.int (-1))) (mm_sI M x 11 2)) (h1 : ∀ (t q : Nat) (M' : mm_M), r = nI t → t < T → p = nI q → q < P → 0 ≤ k → k ≤ 9 → 0 ≤ v → v ≤ 9999 → 1 ≤ s → s ≤ 99 → fee_F M M' x 0 → Q (some (.int (fq_ (-2) k v s p (mm_I M (pa q) 7) (tl t)))) M') : ma_ G jX10_fee (d + 5) 1 9 [.ref x, .int r, .int p, .int k, .int v, .int s] M Q := by
  refine ma_of [some (.ref x), some (.int r), some (.int p), some (.int k), some (.int v), some (.int s), none, none] (by decide) rfl (Nat.le_of_ble_eq_true rfl) ?_
  refine wa_aload_n dX10_fee_0 rfl rfl ?_
  refine wa_iload_n dX10_fee_1 rfl ?_
  refine wa_callV  (q := (RX10, TX10, 13)) (As := [.int r]) dX10_fee_2 lk_X10_153 rfl rfl hx.1.1 rfl rfl (Nat.le_of_ble_eq_true rfl) (Nat.le_of_eq (Nat.zero_add _)) (Nat.le_of_eq (Nat.zero_add _)) (k_X10_tariffAt r T ta la hx (dTL_dT hT) (fun t et ht => ?_) (fun hAt => ?_))
  · subst et
    have htt := (dTL_dT hT).2.2 t ht
    refine wa_astore dX10_fee_5 (by decide) rfl rfl rfl ?_
    refine wa_aload_n dX10_fee_7 rfl rfl ?_
    refine wa_iload_n dX10_fee_8 rfl ?_
    refine wa_callV  (q := (RX10, TX10, 13)) (As := [.int p]) dX10_fee_9 lk_X10_119 rfl rfl hx.1.1 rfl rfl (Nat.le_of_ble_eq_true rfl) (Nat.le_of_eq (Nat.zero_add _)) (Nat.le_of_eq (Nat.zero_add _)) (k_X10_portAt p P T pa hx hP (fun q eq hq => ?_) (fun hAq => ?_))
    · subst eq
      have hpq := (hP.2.2.2 q hq).2.1
      refine wa_astore dX10_fee_12 (by decide) rfl rfl rfl ?_
      refine wa_aload dX10_fee_14 rfl rfl ?_
      refine wa_ifnullR dX10_fee_16 ?_
      refine wa_aload dX10_fee_19 rfl rfl ?_
      refine wa_ifnonnullR (tgt := 30) dX10_fee_21 (by decide) ?_
      refine wa_iload_n dX10_fee_30 rfl ?_
      refine wa_iload dX10_fee_31 rfl ?_
      refine wa_iload dX10_fee_33 rfl ?_
      refine wa_callS (As := [.int k, .int v, .int s]) dX10_fee_35 lk_X10_157 rfl rfl (Nat.le_of_ble_eq_true rfl) (Nat.le_of_eq (Nat.zero_add _)) (Nat.le_of_eq (Nat.zero_add _)) (k_X10_isPaper k v s (fun z1 z2 z3 z4 z5 z6 => ?_) (fun hNP => ?_))
      · refine wa_if_ne (tgt := 47) dX10_fee_38 (by decide) (fun _ => ?_) (fun h9 => absurd h9 (by decide))
        refine wa_aload_n dX10_fee_47 rfl rfl ?_
        refine wa_aload dX10_fee_48 rfl rfl ?_
        refine wa_new (n := 9) (q := (RX2, TX2, 9)) (ci := 2) dX10_fee_50 rfl rfl wc_X10_21 wt_X2 wn_X2 (fun hext => ?_)
        have hfz := nw_fresh (X := fun _ => False) (Y := fun _ => False) (nw_rf _ _ M) hext
        have hz9 := mm_sh_z M (.inl 2)
        have hn1 : nw_ (fun _ => False) (fun _ => False) M (mm_new M (.inl 2)) := nw_new (nw_rf _ _ _) hext
        have hx1 := dsk_nw hn1 ⟨id, id, id, id, id⟩ hx
        have hpq1 := prt_nw hn1 id hpq
        have htt1 := (nw_sh hn1 htt.2.1)
        refine wa_dup dX10_fee_53 rfl ?_
        refine wa_iload_n dX10_fee_54 rfl ?_
        refine wa_iload_n dX10_fee_55 rfl ?_
        refine wa_iload dX10_fee_56 rfl ?_
        refine wa_iload dX10_fee_58 rfl ?_
        refine wa_aload dX10_fee_60 rfl rfl ?_
        refine wa_getI (q := (RX3, TX3, 8)) (ci := 3) (k := 7) dX10_fee_62 rfl (by decide) wf_X10_161 hpq1.1 rfl ?_
        rw [show mm_I (mm_new M (.inl 2)) (pa q) 7 = mm_I M (pa q) 7 from by rw [(hn1 _ _ hpq.1).2.1 id]]
        refine wa_callI  (As := [.int (nI q), .int k, .int v, .int s, .int (mm_I M (pa q) 7)]) dX10_fee_65 lk_X10_163 rfl rfl rfl (Nat.le_of_ble_eq_true rfl) (Nat.le_of_eq (Nat.zero_add _)) (Nat.le_of_eq (Nat.zero_add _)) (k_X2_init (nI q) k v s (mm_I M (pa q) 7) hz9 ?_)
        have hn2 : nw_ (fun _ => False) (fun _ => False) M (pnw_ (mm_new M (.inl 2)) (mm_z M) (nI q) k v s (mm_I M (pa q) 7)) := pnw_nw (nw_new (nw_rf _ _ _) hext) hfz
        have hx2 := dsk_nw hn2 ⟨id, id, id, id, id⟩ hx
        have htt2 := nw_sh hn2 htt.2.1
        have x2 : ∀ j, mm_I (pnw_ (mm_new M (.inl 2)) (mm_z M) (nI q) k v s (mm_I M (pa q) 7)) x j = mm_I M x j := fun j => by rw [(hn2 _ _ hx.1.1).2.1 id]
        have hT2 := dTL_nw hn2 (x2 8) hx (fun _ z => z.elim) (fun _ z => z.elim) (fun _ z => z.elim) hT
        have hpf : pf_ (pnw_ (mm_new M (.inl 2)) (mm_z M) (nI q) k v s (mm_I M (pa q) 7)) (mm_z M) k v s (nI q) (mm_I M (pa q) 7) := pnw_pf hz9
        change wa_ 0 G jX10_fee (d + 5) 1 9 Q 0 0 (pnw_ (mm_new M (.inl 2)) (mm_z M) (nI q) k v s (mm_I M (pa q) 7)) 68 _ _
        
        refine wa_callV  (q := (RX6, TX6, 2)) (As := [.ref (mm_z M)]) dX10_fee_68 lk_X10_166 rfl rfl htt2 rfl rfl (Nat.le_of_ble_eq_true rfl) (Nat.le_of_eq (Nat.zero_add _)) (Nat.le_of_eq (Nat.zero_add _)) (k_X6_feeOf (mm_z M) (la t) ((dTL_dT hT2).2.2 t ht).2 hpf.1 ?_)
        refine wa_callV  (q := (RX10, TX10, 13)) (As := [.int (fo_ (pnw_ (mm_new M (.inl 2)) (mm_z M) (nI q) k v s (mm_I M (pa q) 7)) (la t) (mm_z M) 12 0)]) dX10_fee_71 lk_X10_87 rfl rfl hx2.1.1 rfl rfl (Nat.le_of_ble_eq_true rfl) (Nat.le_of_eq (Nat.zero_add _)) (Nat.le_of_eq (Nat.zero_add _)) (k_X10_accept _ hx2 ?_)
        exact wa_iret dX10_fee_74 rfl (by
      rw [fo_t hT2 hv ht hpf]
      exact h1 t q _ rfl ht rfl hq z1 z2 z3 z4 z5 z6 ⟨nw_I (nw_mono hn2 (fun _ h => h.elim) (fun _ h => h)) (Or.inl rfl), mI_eq _ _ _ _, fun j hj => (mI_ne _ _ _ _ _ hj).trans (x2 j)⟩)
      · refine wa_if_ne (tgt := 47) dX10_fee_38 (by decide) (fun h9 => absurd h9 (by decide)) (fun _ => ?_)
        refine wa_aload_n dX10_fee_41 rfl rfl ?_
        refine wa_iconst (v := 2) dX10_fee_42 (by decide) ?_
        refine wa_callV  (q := (RX10, TX10, 13)) (As := [.int 2]) dX10_fee_43 lk_X10_76 rfl rfl hx.1.1 rfl rfl (Nat.le_of_ble_eq_true rfl) (Nat.le_of_eq (Nat.zero_add _)) (Nat.le_of_eq (Nat.zero_add _)) (k_X10_refuse 2 hx ?_)
        exact wa_iret dX10_fee_46 rfl (h2 t q rfl ht rfl hq hNP)
    · refine wa_astore dX10_fee_12 (by decide) rfl rfl rfl ?_
      refine wa_aload dX10_fee_14 rfl rfl ?_
      refine wa_ifnullR dX10_fee_16 ?_
      refine wa_aload dX10_fee_19 rfl rfl ?_
      refine wa_ifnonnullN dX10_fee_21 ?_
      refine wa_aload_n dX10_fee_24 rfl rfl ?_
      refine wa_iconst (v := 1) dX10_fee_25 (by decide) ?_
      refine wa_callV  (q := (RX10, TX10, 13)) (As := [.int 1]) dX10_fee_26 lk_X10_76 rfl rfl hx.1.1 rfl rfl (Nat.le_of_ble_eq_true rfl) (Nat.le_of_eq (Nat.zero_add _)) (Nat.le_of_eq (Nat.zero_add _)) (k_X10_refuse 1 hx ?_)
      exact wa_iret dX10_fee_29 rfl (h0 (by first | exact Or.inl hAt | exact Or.inr hAq))
  · refine wa_astore dX10_fee_5 (by decide) rfl rfl rfl ?_
    refine wa_aload_n dX10_fee_7 rfl rfl ?_
    refine wa_iload_n dX10_fee_8 rfl ?_
    refine wa_callV  (q := (RX10, TX10, 13)) (As := [.int p]) dX10_fee_9 lk_X10_119 rfl rfl hx.1.1 rfl rfl (Nat.le_of_ble_eq_true rfl) (Nat.le_of_eq (Nat.zero_add _)) (Nat.le_of_eq (Nat.zero_add _)) (k_X10_portAt p P T pa hx hP (fun q eq hq => ?_) (fun hAq => ?_))
    · subst eq
      have hpq := (hP.2.2.2 q hq).2.1
      refine wa_astore dX10_fee_12 (by decide) rfl rfl rfl ?_
      refine wa_aload dX10_fee_14 rfl rfl ?_
      refine wa_ifnullN (tgt := 24) dX10_fee_16 (by decide) ?_
      refine wa_aload_n dX10_fee_24 rfl rfl ?_
      refine wa_iconst (v := 1) dX10_fee_25 (by decide) ?_
      refine wa_callV  (q := (RX10, TX10, 13)) (As := [.int 1]) dX10_fee_26 lk_X10_76 rfl rfl hx.1.1 rfl rfl (Nat.le_of_ble_eq_true rfl) (Nat.le_of_eq (Nat.zero_add _)) (Nat.le_of_eq (Nat.zero_add _)) (k_X10_refuse 1 hx ?_)
      exact wa_iret dX10_fee_29 rfl (h0 (by first | exact Or.inl hAt | exact Or.inr hAq))
    · refine wa_astore dX10_fee_12 (by decide) rfl rfl rfl ?_
      refine wa_aload dX10_fee_14 rfl rfl ?_
      refine wa_ifnullN (tgt := 24) dX10_fee_16 (by decide) ?_
      refine wa_aload_n dX10_fee_24 rfl rfl ?_
      refine wa_iconst (v := 1) dX10_fee_25 (by decide) ?_
      refine wa_callV  (q := (RX10, TX10, 13)) (As := [.int 1]) dX10_fee_26 lk_X10_76 rfl rfl hx.1.1 rfl rfl (Nat.le_of_ble_eq_true rfl) (Nat.le_of_eq (Nat.zero_add _)) (Nat.le_of_eq (Nat.zero_add _)) (k_X10_refuse 1 hx ?_)
      exact wa_iret dX10_fee_29 rfl (h0 (by first | exact Or.inl hAt | exact Or.inr hAq))
