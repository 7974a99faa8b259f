/-! the class takes stamps: a search -/
def Wt (i : Nat) : Nat := match i with | 0 => 1 | 1 => 2 | 2 => 5 | 3 => 10 | _ => 50
def Sp (i : Nat) : Nat := match i with | 0 => 0 | 1 => 0 | 2 => 1 | 3 => 2 | _ => 1
abbrev tw_B : Type := Option ((Nat → Nat) × Nat)
def tl_ (f : Nat → tw_B → tw_B) (lo : Nat) : Nat → tw_B → tw_B
  | 0, b => b
  | k + 1, b => tl_ f lo k (f (lo + k) b)
def tu_ (tr : Nat → Nat) (w t : Nat) : Nat → Nat := fun i => if i = w then t else tr i
def tmo_ (st : Nat → Nat) (w rest : Nat) : Nat := min (st w) (rest / Wt w)
def tw_ (st : Nat → Nat) : Nat → (Nat → Nat) → Nat → Nat → tw_B → tw_B
  | 0, tr, rest, many, b => if rest = 0 ∧ (∀ q, b = some q → many < q.2) then some (tr, many) else b
  | w + 1, tr, rest, many, b => tl_ (fun t b' => tw_ st w (tu_ tr w t) (rest - t * Wt w) (many + t) b') (tmo_ st w rest - Sp w) (tmo_ st w rest - (tmo_ st w rest - Sp w) + 1) b
def nc_ : Nat → Nat
  | 0 => 1
  | w + 1 => (Sp w + 1) * nc_ w
theorem Wt_b : ∀ i, 1 ≤ Wt i ∧ Wt i ≤ 50 := by
  intro i
  match i with
  | 0 => decide
  | 1 => decide
  | 2 => decide
  | 3 => decide
  | n + 4 => exact (by decide : 1 ≤ 50 ∧ 50 ≤ 50)
theorem Sp_b : ∀ i, Sp i ≤ 2 := by
  intro i
  match i with
  | 0 => decide
  | 1 => decide
  | 2 => decide
  | 3 => decide
  | n + 4 => exact (by decide : (1 : Nat) ≤ 2)
theorem mx0_ {a b : Nat} (ha : a < 2 ^ 30) (hb : b < 2 ^ 30) : (if (0 : Int32) < nI a - nI b then nI a - nI b else 0) = nI (a - b) := by
  by_cases h : b ≤ a
  · rw [pk_sub h]
    by_cases h2 : a = b
    · rw [h2, Nat.sub_self, if_neg (by decide)]
      rfl
    · rw [if_pos (show (0 : Int32) < nI (a - b) from nI_lt (a := 0) (b := a - b) (by omega) (by omega))]
  · rw [if_neg (fun z => ?_), show a - b = 0 from by omega]
    · rfl
    · have := pk_sneg hb (Nat.not_le.mp h)
      exact absurd (Int32.lt_trans z this) (by decide)
theorem pm1_ (a : Int32) : a + Int32.ofInt (-1) = a - 1 := by
  rw [Int32.sub_eq_add_neg]
  rfl
theorem lo1_ {a : Nat} (h : a < 2 ^ 30) : nI a - 1 < nI a := by
  rcases Nat.eq_zero_or_pos a with e | e
  · subst e; decide
  · rw [show a = (a - 1) + 1 from by omega, nI_pred]
    exact nI_lt (by omega) (by omega)
def cx_ (M : mm_M) (c w0 s0 : Nat) : Prop := mm_sh M c = some (.inl 0) ∧ mm_R M c 0 = some (c + 1) ∧ mm_sh M (c + 1) = some (.inr (0, 5)) ∧ mm_sh M w0 = some (.inr (10, 5)) ∧ (∀ i, i < 5 → mm_I M w0 i = nI (Wt i)) ∧ mm_sh M s0 = some (.inr (10, 5)) ∧ ∀ i, i < 5 → mm_I M s0 i = nI (Sp i)
def cst_ (M : mm_M) (sa : Nat) (st : Nat → Nat) : Prop := mm_sh M sa = some (.inr (0, 5)) ∧ ∀ i, i < 5 → mm_I M sa i = nI (st i)
/-- what is best so far; its row is new since M0 -/
def bs_ (M0 M : mm_M) (c : Nat) (b : tw_B) : Prop := match b with
  | none => mm_R M c 1 = none
  | some q => ∃ a, mm_R M c 1 = some a ∧ mm_sh M a = some (.inr (0, 5)) ∧ a ≠ c + 1 ∧ (∀ u, ¬ mm_sh M0 a = some u) ∧ (∀ i, i < 5 → mm_I M a i = nI (q.1 i)) ∧ mm_I M c 2 = nI q.2 ∧ q.2 ≤ 5000
theorem bs_some {M0 M : mm_M} {c : Nat} {b : tw_B} {q : (Nat → Nat) × Nat} (h : bs_ M0 M c b) (e : b = some q) : ∃ a, mm_R M c 1 = some a ∧ mm_sh M a = some (.inr (0, 5)) ∧ a ≠ c + 1 ∧ (∀ u, ¬ mm_sh M0 a = some u) ∧ (∀ i, i < 5 → mm_I M a i = nI (q.1 i)) ∧ mm_I M c 2 = nI q.2 ∧ q.2 ≤ 5000 := by
  subst e
  exact h
theorem bs_eq {M0 M M' : mm_M} {c : Nat} {b : tw_B} (h : bs_ M0 M c b) (hc1 : mm_R M' c 1 = mm_R M c 1) (hc2 : mm_I M' c 2 = mm_I M c 2) (hs : ∀ a s, mm_sh M a = some s → mm_sh M' a = some s ∧ (a ≠ c + 1 → a ≠ c → mm_I M' a = mm_I M a)) (hc : mm_sh M c = some (.inl 0)) : bs_ M0 M' c b := by
  cases b with
  | none => exact hc1.trans h
  | some q =>
    obtain ⟨a, a1, a2, a3, a4, a5, a6, a7⟩ := h
    have hac : a ≠ c := fun e => by rw [e, hc] at a2; cases a2
    refine ⟨a, hc1.trans a1, (hs a _ a2).1, a3, a4, fun i hi => ?_, hc2.trans a6, a7⟩
    rw [(hs a _ a2).2 a3 hac]
    exact a5 i hi

theorem nw_cp {X Y : Nat → Prop} {A B : mm_M} {a n : Nat} (h : nw_ X Y A B) (he : mm_ext B (.inr (0, n))) : nw_ X Y A (mm_cp B a n) := by
  intro b u hb
  obtain ⟨h1, h2, h3, h4⟩ := h b u hb
  obtain ⟨e1, e2, -⟩ := he b u h1
  refine ⟨e1, fun q => ?_, (mm_f_ne e2).trans h3, fun q => (mm_f_ne e2).trans (h4 q)⟩
  rw [← h2 q]
  funext j
  rw [mm_cp_I, if_neg e2]

theorem keepF {G : mm_G} {d : Nat} {Q : Option Value → mm_M → Prop} {M : mm_M} {c w0 s0 sa : Nat} {M0 : mm_M} {st : Nat → Nat} (hsc : sa ≠ c + 1) {tr : Nat → Nat} {rest many : Nat} {b : tw_B} (hr0 : rest = 0) (hn : nw_ (fun z => z = c ∨ z = c + 1) (fun z => z = c) M0 M) (hcx : cx_ M c w0 s0) (hst : cst_ M sa st) (hmr : many + rest ≤ 5000) (htr : (∀ i, 0 ≤ i → i < 5 → mm_I M (c + 1) i = nI (tr i))) (hbs : bs_ M0 M c b) (hQ : ∀ M' : mm_M, nw_ (fun z => z = c ∨ z = c + 1) (fun z => z = c) M0 M' → cx_ M' c w0 s0 → cst_ M' sa st → (∀ i, 0 ≤ i → i < 5 → mm_I M' (c + 1) i = nI (tr i)) → bs_ M0 M' c (tw_ st 0 tr rest many b) → Q none M') : ma_ G jX0_keepIfFewer (d + 1) 1 5 [.ref c, .int (nI many)] M Q := by
  refine ma_of [some (.ref c), some (.int (nI many))] (by decide) rfl (Nat.le_of_ble_eq_true rfl) ?_
  cases b with
  | none =>
    refine wa_aload_n dX0_keepIfFewer_0 rfl rfl ?_
    refine wa_getR (q := (RX0, TX0, 3)) (ci := 0) (k := 1) dX0_keepIfFewer_1 rfl (by decide) wf_X0_18 hcx.1 rfl (rf_none hbs) ?_
    refine wa_ifnullN (tgt := 15) dX0_keepIfFewer_4 (by decide) ?_
    refine wa_aload_n dX0_keepIfFewer_15 rfl rfl ?_
    refine wa_aload_n dX0_keepIfFewer_16 rfl rfl ?_
    refine wa_getR (q := (RX0, TX0, 3)) (ci := 0) (k := 0) dX0_keepIfFewer_17 rfl (by decide) wf_X0_13 hcx.1 rfl (rf_some hcx.2.1) ?_
    refine wa_clone (kc := 0) (ks := 0) (n := 5) dX0_keepIfFewer_20 rfl rfl hcx.2.2.1 (Nat.le_of_ble_eq_true rfl) (fun hext => ?_)
    have hcx9 : mm_sh (mm_cp M (c + 1) 5) c = some (.inl 0) ∧ True := ⟨(hext _ _ hcx.1).1, trivial⟩
    refine wa_castI (n := 5) dX0_keepIfFewer_23 wc_X0_30 (by rw [mm_cp_sh, if_pos rfl]) ?_
    refine wa_put (q := (RX0, TX0, 3)) (ci := 0) (k := 1) dX0_keepIfFewer_26 rfl (by decide) wf_X0_18 rfl hcx9.1 rfl ?_
    refine wa_aload_n dX0_keepIfFewer_29 rfl rfl ?_
    refine wa_iload_n dX0_keepIfFewer_30 rfl ?_
    refine wa_put (q := (RX0, TX0, 3)) (ci := 0) (k := 2) dX0_keepIfFewer_31 rfl (by decide) wf_X0_21 rfl hcx9.1 rfl ?_
    refine wa_vret dX0_keepIfFewer_34 rfl ?_
    have hcz : c ≠ mm_z M := (hext _ _ hcx.1).2.1
    have hc1z : c + 1 ≠ mm_z M := (hext _ _ hcx.2.2.1).2.1
    have hfz : ∀ u, ¬ mm_sh M0 (mm_z M) = some u := nw_fresh hn hext
    have hnF : nw_ (fun z => z = c ∨ z = c + 1) (fun z => z = c) M0 (mm_sI (mm_sR (mm_cp M (c + 1) 5) c 1 (some (mm_z M))) c 2 (nI many)) := nw_I (nw_R (nw_cp hn hext) (Or.inl rfl)) (Or.inl (Or.inl rfl))
    have hnM : nw_ (fun z => z = c) (fun z => z = c) M (mm_sI (mm_sR (mm_cp M (c + 1) 5) c 1 (some (mm_z M))) c 2 (nI many)) := nw_I (nw_R (nw_cp (nw_rf _ _ _) hext) (Or.inl rfl)) (Or.inl rfl)
    have hw0 : ¬ w0 = c := fun e => by have h := hcx.2.2.2.1; rw [e, hcx.1] at h; cases h
    have hs0 : ¬ s0 = c := fun e => by have h := hcx.2.2.2.2.2.1; rw [e, hcx.1] at h; cases h
    have hsa0 : ¬ sa = c := fun e => by have h := hst.1; rw [e, hcx.1] at h; cases h
    refine hQ (mm_sI (mm_sR (mm_cp M (c + 1) 5) c 1 (some (mm_z M))) c 2 (nI many)) hnF ⟨(hnM _ _ hcx.1).1, ?_, (hnM _ _ hcx.2.2.1).1, (hnM _ _ hcx.2.2.2.1).1, fun i hi => ?_, (hnM _ _ hcx.2.2.2.2.2.1).1, fun i hi => ?_⟩ ⟨(hnM _ _ hst.1).1, fun i hi => ?_⟩ (fun i h1 h2 => ?_) ?_
    · show mm_R (mm_sR (mm_cp M (c + 1) 5) c 1 (some (mm_z M))) c 0 = _
      rw [mR_ne _ _ _ _ _ (by decide)]
      exact (congrFun (mm_f_ne hcz) 0).trans hcx.2.1
    · rw [(hnM _ _ hcx.2.2.2.1).2.1 hw0]; exact hcx.2.2.2.2.1 i hi
    · rw [(hnM _ _ hcx.2.2.2.2.2.1).2.1 hs0]; exact hcx.2.2.2.2.2.2 i hi
    · rw [(hnM _ _ hst.1).2.1 hsa0]; exact hst.2 i hi
    · rw [(hnM _ _ hcx.2.2.1).2.1 (by omega)]; exact htr i h1 h2
    · have e9 : tw_ st 0 tr rest many none = some (tr, many) := if_pos ⟨hr0, fun q e => (by cases e)⟩
      rw [e9]
      refine ⟨mm_z M, mR_eq _ _ _ _, ?_, Ne.symm hc1z, hfz, fun i hi => ?_, mI_eq _ _ _ _, by show many ≤ 5000; omega⟩
      · show mm_sh (mm_cp M (c + 1) 5) (mm_z M) = _
        rw [mm_cp_sh, if_pos rfl]
      · rw [mI_na _ _ _ _ _ _ (Ne.symm hcz)]
        show mm_I (mm_cp M (c + 1) 5) (mm_z M) i = _
        rw [mm_cp_I, if_pos rfl]
        exact htr i (Nat.zero_le _) hi
  | some q =>
    obtain ⟨ab, hab1, hab2, hab3, hab4, hab5, hab6, hab7⟩ := hbs
    have hbs : bs_ M0 M c (some q) := ⟨ab, hab1, hab2, hab3, hab4, hab5, hab6, hab7⟩
    refine wa_aload_n dX0_keepIfFewer_0 rfl rfl ?_
    refine wa_getR (q := (RX0, TX0, 3)) (ci := 0) (k := 1) dX0_keepIfFewer_1 rfl (by decide) wf_X0_18 hcx.1 rfl (rf_some hab1) ?_
    refine wa_ifnullR dX0_keepIfFewer_4 ?_
    refine wa_iload_n dX0_keepIfFewer_7 rfl ?_
    refine wa_aload_n dX0_keepIfFewer_8 rfl rfl ?_
    refine wa_getI (q := (RX0, TX0, 3)) (ci := 0) (k := 2) dX0_keepIfFewer_9 rfl (by decide) wf_X0_21 hcx.1 rfl ?_
    rw [hab6]
    refine wa_icmp_ge (tgt := 34) dX0_keepIfFewer_12 (by decide) (fun hT12 => ?_) (fun hF12 => ?_)
    · refine wa_vret dX0_keepIfFewer_34 rfl ?_
      have e9 : tw_ st 0 tr rest many (some q) = (some q) := if_neg (fun z => absurd (z.2 q rfl) (Nat.not_lt.mpr (ni_le hT12 (by omega) (by omega))))
      refine hQ M hn hcx hst htr ?_
      rw [e9]
      exact hbs
    · refine wa_aload_n dX0_keepIfFewer_15 rfl rfl ?_
      refine wa_aload_n dX0_keepIfFewer_16 rfl rfl ?_
      refine wa_getR (q := (RX0, TX0, 3)) (ci := 0) (k := 0) dX0_keepIfFewer_17 rfl (by decide) wf_X0_13 hcx.1 rfl (rf_some hcx.2.1) ?_
      refine wa_clone (kc := 0) (ks := 0) (n := 5) dX0_keepIfFewer_20 rfl rfl hcx.2.2.1 (Nat.le_of_ble_eq_true rfl) (fun hext => ?_)
      have hcx9 : mm_sh (mm_cp M (c + 1) 5) c = some (.inl 0) ∧ True := ⟨(hext _ _ hcx.1).1, trivial⟩
      refine wa_castI (n := 5) dX0_keepIfFewer_23 wc_X0_30 (by rw [mm_cp_sh, if_pos rfl]) ?_
      refine wa_put (q := (RX0, TX0, 3)) (ci := 0) (k := 1) dX0_keepIfFewer_26 rfl (by decide) wf_X0_18 rfl hcx9.1 rfl ?_
      refine wa_aload_n dX0_keepIfFewer_29 rfl rfl ?_
      refine wa_iload_n dX0_keepIfFewer_30 rfl ?_
      refine wa_put (q := (RX0, TX0, 3)) (ci := 0) (k := 2) dX0_keepIfFewer_31 rfl (by decide) wf_X0_21 rfl hcx9.1 rfl ?_
      refine wa_vret dX0_keepIfFewer_34 rfl ?_
      have hlt : many < q.2 := ni_nle hF12 (by omega) (by omega)
      have hcz : c ≠ mm_z M := (hext _ _ hcx.1).2.1
      have hc1z : c + 1 ≠ mm_z M := (hext _ _ hcx.2.2.1).2.1
      have hfz : ∀ u, ¬ mm_sh M0 (mm_z M) = some u := nw_fresh hn hext
      have hnF : nw_ (fun z => z = c ∨ z = c + 1) (fun z => z = c) M0 (mm_sI (mm_sR (mm_cp M (c + 1) 5) c 1 (some (mm_z M))) c 2 (nI many)) := nw_I (nw_R (nw_cp hn hext) (Or.inl rfl)) (Or.inl (Or.inl rfl))
      have hnM : nw_ (fun z => z = c) (fun z => z = c) M (mm_sI (mm_sR (mm_cp M (c + 1) 5) c 1 (some (mm_z M))) c 2 (nI many)) := nw_I (nw_R (nw_cp (nw_rf _ _ _) hext) (Or.inl rfl)) (Or.inl rfl)
      have hw0 : ¬ w0 = c := fun e => by have h := hcx.2.2.2.1; rw [e, hcx.1] at h; cases h
      have hs0 : ¬ s0 = c := fun e => by have h := hcx.2.2.2.2.2.1; rw [e, hcx.1] at h; cases h
      have hsa0 : ¬ sa = c := fun e => by have h := hst.1; rw [e, hcx.1] at h; cases h
      refine hQ (mm_sI (mm_sR (mm_cp M (c + 1) 5) c 1 (some (mm_z M))) c 2 (nI many)) hnF ⟨(hnM _ _ hcx.1).1, ?_, (hnM _ _ hcx.2.2.1).1, (hnM _ _ hcx.2.2.2.1).1, fun i hi => ?_, (hnM _ _ hcx.2.2.2.2.2.1).1, fun i hi => ?_⟩ ⟨(hnM _ _ hst.1).1, fun i hi => ?_⟩ (fun i h1 h2 => ?_) ?_
      · show mm_R (mm_sR (mm_cp M (c + 1) 5) c 1 (some (mm_z M))) c 0 = _
        rw [mR_ne _ _ _ _ _ (by decide)]
        exact (congrFun (mm_f_ne hcz) 0).trans hcx.2.1
      · rw [(hnM _ _ hcx.2.2.2.1).2.1 hw0]; exact hcx.2.2.2.2.1 i hi
      · rw [(hnM _ _ hcx.2.2.2.2.2.1).2.1 hs0]; exact hcx.2.2.2.2.2.2 i hi
      · rw [(hnM _ _ hst.1).2.1 hsa0]; exact hst.2 i hi
      · rw [(hnM _ _ hcx.2.2.1).2.1 (by omega)]; exact htr i h1 h2
      · have e9 : tw_ st 0 tr rest many (some q) = some (tr, many) := if_pos ⟨hr0, fun q9 e => (by cases e; exact hlt)⟩
        rw [e9]
        refine ⟨mm_z M, mR_eq _ _ _ _, ?_, Ne.symm hc1z, hfz, fun i hi => ?_, mI_eq _ _ _ _, by show many ≤ 5000; omega⟩
        · show mm_sh (mm_cp M (c + 1) 5) (mm_z M) = _
          rw [mm_cp_sh, if_pos rfl]
        · rw [mI_na _ _ _ _ _ _ (Ne.symm hcz)]
          show mm_I (mm_cp M (c + 1) 5) (mm_z M) i = _
          rw [mm_cp_I, if_pos rfl]
          exact htr i (Nat.zero_le _) hi

theorem tryW0 {G : mm_G} {d : Nat} {Q : Option Value → mm_M → Prop} {M : mm_M} {c w0 s0 sa : Nat} {M0 : mm_M} {st : Nat → Nat} (hG0 : G.2.2.2.1 0 = .ref w0) (hG1 : G.2.2.2.1 1 = .ref s0) (hsc : sa ≠ c + 1) {tr : Nat → Nat} {rest many : Nat} {b : tw_B} (hn : nw_ (fun z => z = c ∨ z = c + 1) (fun z => z = c) M0 M) (hcx : cx_ M c w0 s0) (hst : cst_ M sa st) (hmr : many + rest ≤ 5000) (htr : (∀ i, 0 ≤ i → i < 5 → mm_I M (c + 1) i = nI (tr i))) (hbs : bs_ M0 M c b) (hQ : ∀ M' : mm_M, nw_ (fun z => z = c ∨ z = c + 1) (fun z => z = c) M0 M' → cx_ M' c w0 s0 → cst_ M' sa st → (∀ i, 0 ≤ i → i < 5 → mm_I M' (c + 1) i = nI (tr i)) → bs_ M0 M' c (tw_ st 0 tr rest many b) → Q none M') : ma_ G jX0_tryWorth (d + 2) 1 5 [.ref c, .ref sa, .int (nI 0 - 1), .int (nI rest), .int (nI many)] M Q := by
  refine ma_of [some (.ref c), some (.ref sa), some (.int (nI 0 - 1)), some (.int (nI rest)), some (.int (nI many)), none, none] (by decide) rfl (Nat.le_of_ble_eq_true rfl) ?_
  refine wa_iload_n dX0_tryWorth_0 rfl ?_
  refine wa_if_ge (tgt := 15) dX0_tryWorth_1 (by decide) (fun hT1 => absurd hT1 (by decide)) (fun hF1 => ?_)
  refine wa_iload_n dX0_tryWorth_4 rfl ?_
  refine wa_if_ne (tgt := 14) dX0_tryWorth_5 (by decide) (fun hT5 => ?_) (fun hF5 => ?_)
  · refine wa_vret dX0_tryWorth_14 rfl ?_
    have e9 : tw_ st 0 tr rest many b = b := if_neg (fun z => hT5 (by rw [z.1]; rfl))
    refine hQ M hn hcx hst htr ?_
    rw [e9]
    exact hbs
  · have hr0 : rest = 0 := ni_0 hF5 (by omega)
    refine wa_aload_n dX0_tryWorth_8 rfl rfl ?_
    refine wa_iload dX0_tryWorth_9 rfl ?_
    refine wa_callV (kc' := 0) (ks' := 0) (q := (RX0, TX0, 3)) (As := [.int (nI many)]) dX0_tryWorth_11 lk_X0_34 rfl rfl hcx.1 rfl rfl (Nat.le_of_ble_eq_true rfl) (by decide) (by decide) (keepF hsc hr0 hn hcx hst hmr htr hbs (fun M9 g1 g2 g3 g4 g5 => ?_))
    exact wa_vret dX0_tryWorth_14 rfl (hQ M9 g1 g2 g3 g4 g5)

theorem tryWs {G : mm_G} {c w0 s0 sa : Nat} {M0 : mm_M} {st : Nat → Nat} (hG0 : G.2.2.2.1 0 = .ref w0) (hG1 : G.2.2.2.1 1 = .ref s0) (hsc : sa ≠ c + 1) (hstb : ∀ i, st i ≤ 10000) (w : Nat) (hw : w < 5) (ih : ∀ (d : Nat) (Q : Option Value → mm_M → Prop) (M : mm_M) (tr : Nat → Nat) (rest many : Nat) (b : tw_B), nw_ (fun z => z = c ∨ z = c + 1) (fun z => z = c) M0 M → cx_ M c w0 s0 → cst_ M sa st → many + rest ≤ 5000 → (∀ i, w ≤ i → i < 5 → mm_I M (c + 1) i = nI (tr i)) → bs_ M0 M c b → (∀ M' : mm_M, nw_ (fun z => z = c ∨ z = c + 1) (fun z => z = c) M0 M' → cx_ M' c w0 s0 → cst_ M' sa st → (∀ i, w ≤ i → i < 5 → mm_I M' (c + 1) i = nI (tr i)) → bs_ M0 M' c (tw_ st w tr rest many b) → Q none M') → ma_ G jX0_tryWorth (d + w + 2) (nc_ w) (5 * nc_ w) [.ref c, .ref sa, .int (nI w - 1), .int (nI rest), .int (nI many)] M Q) : ∀ (d : Nat) (Q : Option Value → mm_M → Prop) (M : mm_M) (tr : Nat → Nat) (rest many : Nat) (b : tw_B), nw_ (fun z => z = c ∨ z = c + 1) (fun z => z = c) M0 M → cx_ M c w0 s0 → cst_ M sa st → many + rest ≤ 5000 → (∀ i, (w + 1) ≤ i → i < 5 → mm_I M (c + 1) i = nI (tr i)) → bs_ M0 M c b → (∀ M' : mm_M, nw_ (fun z => z = c ∨ z = c + 1) (fun z => z = c) M0 M' → cx_ M' c w0 s0 → cst_ M' sa st → (∀ i, (w + 1) ≤ i → i < 5 → mm_I M' (c + 1) i = nI (tr i)) → bs_ M0 M' c (tw_ st (w + 1) tr rest many b) → Q none M') → ma_ G jX0_tryWorth (d + (w + 1) + 2) (nc_ (w + 1)) (5 * nc_ (w + 1)) [.ref c, .ref sa, .int (nI (w + 1) - 1), .int (nI rest), .int (nI many)] M Q := by
  intro d Q M tr rest many b hn hcx hst hmr htr hbs hQ
  have hwt := Wt_b w
  have hsp := Sp_b w
  have hmo : (tmo_ st w rest) ≤ 5000 := Nat.le_trans (Nat.min_le_right _ _) (Nat.le_trans (Nat.div_le_self _ _) (by omega))
  rw [nI_pred w]
  have loop : ∀ (k : Nat) (M1 : mm_M) (b1 : tw_B), (tmo_ st w rest - Sp w) + k ≤ (tmo_ st w rest) + 1 → nw_ (fun z => z = c ∨ z = c + 1) (fun z => z = c) M0 M1 → cx_ M1 c w0 s0 → cst_ M1 sa st → (∀ i, w + 1 ≤ i → i < 5 → mm_I M1 (c + 1) i = nI (tr i)) → bs_ M0 M1 c b1 → (∀ M' : mm_M, nw_ (fun z => z = c ∨ z = c + 1) (fun z => z = c) M0 M' → cx_ M' c w0 s0 → cst_ M' sa st → (∀ i, w + 1 ≤ i → i < 5 → mm_I M' (c + 1) i = nI (tr i)) → bs_ M0 M' c (tl_ (fun t b' => tw_ st w (tu_ tr w t) (rest - t * Wt w) (many + t) b') (tmo_ st w rest - Sp w) k b1) → Q none M') → wa_ 0 G jX0_tryWorth (d + (w + 1) + 2) (nc_ (w + 1)) (5 * nc_ (w + 1)) Q (k * nc_ w) (k * (5 * nc_ w)) M1 74 [some (.ref c), some (.ref sa), some (.int (nI w)), some (.int (nI rest)), some (.int (nI many)), some (.int (nI (tmo_ st w rest))), some (.int (nI ((tmo_ st w rest - Sp w) + k) - 1))] [] := by
    intro k
    induction k with
    | zero =>
      intro M1 b1 hk hn hcx hst htr hbs hQ
      refine wa_iload dX0_tryWorth_74 rfl ?_
      refine wa_iconst (v := 0) dX0_tryWorth_76 (by decide) ?_
      refine wa_iload dX0_tryWorth_77 rfl ?_
      refine wa_getsN (k := 1) (host := "ConsulDesk") dX0_tryWorth_79 rfl (by decide) hG1 ?_
      refine wa_iload_n dX0_tryWorth_82 rfl ?_
      refine wa_ialdN dX0_tryWorth_83 hcx.2.2.2.2.2.1 (Or.inr rfl) (by omega) (by decide) ?_
      rw [hcx.2.2.2.2.2.2 w hw]
      refine wa_isub dX0_tryWorth_84 ?_
      refine wa_mmax dX0_tryWorth_85 lk_X0_47 (Nat.le_of_ble_eq_true rfl) ?_
      rw [mx0_ (by omega) (by omega)]
      refine wa_icmp_lt (tgt := 128) dX0_tryWorth_88 (by decide) (fun hT88 => ?_) (fun hF88 => absurd (lo1_ (by omega)) hF88)
      exact wa_vret dX0_tryWorth_128 rfl (hQ M1 hn hcx hst htr hbs)
    | succ k ihk =>
      intro M1 b1 hk hn hcx hst htr hbs hQ
      have e6 : nI ((tmo_ st w rest - Sp w) + (k + 1)) - 1 = nI ((tmo_ st w rest - Sp w) + k) := nI_pred _
      rw [e6]
      obtain ⟨t, et⟩ : ∃ t, t = (tmo_ st w rest - Sp w) + k := ⟨_, rfl⟩
      have ht : t ≤ (tmo_ st w rest) := by omega
      have htr2 : t ≤ rest / Wt w := Nat.le_trans ht (Nat.min_le_right _ _)
      have htw : t * Wt w ≤ rest := Nat.le_trans (Nat.mul_le_mul_right _ htr2) (Nat.div_mul_le_self _ _)
      have htt : t ≤ t * Wt w := Nat.le_mul_of_pos_right _ (by omega)
      rw [← et]
      have hn2 : nw_ (fun z => z = c ∨ z = c + 1) (fun z => z = c) M0 (mm_sI M1 (c + 1) w (nI t)) := nw_I hn (Or.inl (Or.inr rfl))
      have hm2 : nw_ (fun z => z = c + 1) (fun _ => False) M1 (mm_sI M1 (c + 1) w (nI t)) := nw_I (nw_rf _ _ _) (Or.inl rfl)
      have hw0 : ¬ w0 = c + 1 := fun e => by have h := hcx.2.2.2.1; rw [e, hcx.2.2.1] at h; cases h
      have hs0 : ¬ s0 = c + 1 := fun e => by have h := hcx.2.2.2.2.2.1; rw [e, hcx.2.2.1] at h; cases h
      have hcx2 : cx_ (mm_sI M1 (c + 1) w (nI t)) c w0 s0 := ⟨hcx.1, hcx.2.1, hcx.2.2.1, hcx.2.2.2.1, fun i hi => (mI_na _ _ _ _ _ _ hw0).trans (hcx.2.2.2.2.1 i hi), hcx.2.2.2.2.2.1, fun i hi => (mI_na _ _ _ _ _ _ hs0).trans (hcx.2.2.2.2.2.2 i hi)⟩
      have hst2 : cst_ (mm_sI M1 (c + 1) w (nI t)) sa st := ⟨hst.1, fun i hi => (mI_na _ _ _ _ _ _ hsc).trans (hst.2 i hi)⟩
      have htr3 : (∀ i, w ≤ i → i < 5 → mm_I (mm_sI M1 (c + 1) w (nI t)) (c + 1) i = nI ((tu_ tr w t) i)) := by
        intro i h1 h2
        by_cases e : i = w
        · subst e
          rw [mI_eq]
          unfold tu_
          rw [if_pos rfl]
        · rw [mI_ne _ _ _ _ _ e]
          unfold tu_
          rw [if_neg e]
          exact htr i (by omega) h2
      have hbs2 : bs_ M0 (mm_sI M1 (c + 1) w (nI t)) c b1 := bs_eq hbs rfl (mI_na _ _ _ _ _ _ (by omega)) (fun a s ha => ⟨ha, fun h1 h2 => (hm2 a s ha).2.1 h1⟩) hcx.1
      refine wa_iload dX0_tryWorth_74 rfl ?_
      refine wa_iconst (v := 0) dX0_tryWorth_76 (by decide) ?_
      refine wa_iload dX0_tryWorth_77 rfl ?_
      refine wa_getsN (k := 1) (host := "ConsulDesk") dX0_tryWorth_79 rfl (by decide) hG1 ?_
      refine wa_iload_n dX0_tryWorth_82 rfl ?_
      refine wa_ialdN dX0_tryWorth_83 hcx.2.2.2.2.2.1 (Or.inr rfl) hw (by decide) ?_
      rw [hcx.2.2.2.2.2.2 w hw]
      refine wa_isub dX0_tryWorth_84 ?_
      refine wa_mmax dX0_tryWorth_85 lk_X0_47 (Nat.le_of_ble_eq_true rfl) ?_
      rw [mx0_ (by omega) (by omega)]
      refine wa_icmp_lt (tgt := 128) dX0_tryWorth_88 (by decide) (fun hT88 => absurd hT88 (nI_nlt (by omega) (by omega))) (fun hF88 => ?_)
      refine wa_aload_n dX0_tryWorth_91 rfl rfl ?_
      refine wa_getR (q := (RX0, TX0, 3)) (ci := 0) (k := 0) dX0_tryWorth_92 rfl (by decide) wf_X0_13 hcx.1 rfl (rf_some hcx.2.1) ?_
      refine wa_iload_n dX0_tryWorth_95 rfl ?_
      refine wa_iload dX0_tryWorth_96 rfl ?_
      refine wa_iastN dX0_tryWorth_98 hcx.2.2.1 hw (by decide) ?_
      refine wa_aload_n dX0_tryWorth_99 rfl rfl ?_
      refine wa_aload_n dX0_tryWorth_100 rfl rfl ?_
      refine wa_iload_n dX0_tryWorth_101 rfl ?_
      refine wa_iconst (v := 1) dX0_tryWorth_102 (by decide) ?_
      refine wa_isub dX0_tryWorth_103 ?_
      refine wa_iload_n dX0_tryWorth_104 rfl ?_
      refine wa_iload dX0_tryWorth_105 rfl ?_
      refine wa_getsN (k := 0) (host := "ConsulDesk") dX0_tryWorth_107 rfl (by decide) hG0 ?_
      refine wa_iload_n dX0_tryWorth_110 rfl ?_
      refine wa_ialdN dX0_tryWorth_111 hcx2.2.2.2.1 (Or.inr rfl) hw (by decide) ?_
      rw [hcx2.2.2.2.2.1 w hw]
      refine wa_imul dX0_tryWorth_112 ?_
      rw [pk_mul]
      refine wa_isub dX0_tryWorth_113 ?_
      rw [pk_sub htw]
      refine wa_iload dX0_tryWorth_114 rfl ?_
      refine wa_iload dX0_tryWorth_116 rfl ?_
      refine wa_iadd dX0_tryWorth_118 ?_
      rw [nI_add]
      refine wa_callS (kc' := k * nc_ w) (ks' := k * (5 * nc_ w)) (As := [.ref c, .ref sa, .int (nI w - 1), .int (nI (rest - t * Wt w)), .int (nI (many + t))]) dX0_tryWorth_119 lk_X0_25 rfl rfl (Nat.le_of_ble_eq_true rfl) (Nat.le_of_eq (by rw [Nat.succ_mul k, Nat.add_comm])) (Nat.le_of_eq (by rw [Nat.succ_mul k, Nat.add_comm])) (ih d _ _ (tu_ tr w t) (rest - t * Wt w) (many + t) b1 hn2 hcx2 hst2 (by omega) htr3 hbs2 (fun M2 n2 c2 s2 t2 b2 => ?_))
      refine wa_iinc (v := (nI t - 1)) dX0_tryWorth_122 rfl (pm1_ _) (by decide) rfl rfl ?_
      refine wa_goto (tgt := 74) dX0_tryWorth_125 (by decide) ?_
      rw [et]
      refine ihk M2 _ (by omega) n2 c2 s2 (fun i h1 h2 => ?_) b2 (fun M' g1 g2 g3 g4 g5 => hQ M' g1 g2 g3 g4 (by rw [et] at g5; exact g5))
      have h9 := t2 i (by omega) h2
      rw [h9]
      unfold tu_
      rw [if_neg (by omega)]
  have hkc : ((tmo_ st w rest) - (tmo_ st w rest - Sp w) + 1) * nc_ w ≤ nc_ (w + 1) := Nat.mul_le_mul_right _ (by omega)
  have hks : ((tmo_ st w rest) - (tmo_ st w rest - Sp w) + 1) * (5 * nc_ w) ≤ 5 * nc_ (w + 1) := by
    rw [Nat.mul_left_comm]
    exact Nat.mul_le_mul_left _ hkc
  refine ma_of [some (.ref c), some (.ref sa), some (.int (nI w)), some (.int (nI rest)), some (.int (nI many)), none, none] (by decide) rfl (Nat.le_of_ble_eq_true rfl) ?_
  refine wa_iload_n dX0_tryWorth_0 rfl ?_
  refine wa_if_ge (tgt := 15) dX0_tryWorth_1 (by decide) (fun hT1 => ?_) (fun hF1 => absurd (nI_pos' (by omega)) hF1)
  refine wa_iload_n dX0_tryWorth_15 rfl ?_
  refine wa_aload_n dX0_tryWorth_16 rfl rfl ?_
  refine wa_alen dX0_tryWorth_17 hst.1 ?_
  refine wa_icmp_ge (tgt := 54) dX0_tryWorth_18 (by decide) (fun hT18 => absurd hT18 (nI_ge (b := 5) (by omega) (by decide))) (fun hF18 => ?_)
  refine wa_iload_n dX0_tryWorth_21 rfl ?_
  refine wa_getsN (k := 0) (host := "ConsulDesk") dX0_tryWorth_22 rfl (by decide) hG0 ?_
  refine wa_alen dX0_tryWorth_25 hcx.2.2.2.1 ?_
  refine wa_icmp_ge (tgt := 54) dX0_tryWorth_26 (by decide) (fun hT26 => absurd hT26 (nI_ge (b := 5) (by omega) (by decide))) (fun hF26 => ?_)
  refine wa_iload_n dX0_tryWorth_29 rfl ?_
  refine wa_getsN (k := 1) (host := "ConsulDesk") dX0_tryWorth_30 rfl (by decide) hG1 ?_
  refine wa_alen dX0_tryWorth_33 hcx.2.2.2.2.2.1 ?_
  refine wa_icmp_ge (tgt := 54) dX0_tryWorth_34 (by decide) (fun hT34 => absurd hT34 (nI_ge (b := 5) (by omega) (by decide))) (fun hF34 => ?_)
  refine wa_iload_n dX0_tryWorth_37 rfl ?_
  refine wa_aload_n dX0_tryWorth_38 rfl rfl ?_
  refine wa_getR (q := (RX0, TX0, 3)) (ci := 0) (k := 0) dX0_tryWorth_39 rfl (by decide) wf_X0_13 hcx.1 rfl (rf_some hcx.2.1) ?_
  refine wa_alen dX0_tryWorth_42 hcx.2.2.1 ?_
  refine wa_icmp_ge (tgt := 54) dX0_tryWorth_43 (by decide) (fun hT43 => absurd hT43 (nI_ge (b := 5) (by omega) (by decide))) (fun hF43 => ?_)
  refine wa_getsN (k := 0) (host := "ConsulDesk") dX0_tryWorth_46 rfl (by decide) hG0 ?_
  refine wa_iload_n dX0_tryWorth_49 rfl ?_
  refine wa_ialdN dX0_tryWorth_50 hcx.2.2.2.1 (Or.inr rfl) hw (by decide) ?_
  rw [hcx.2.2.2.2.1 w hw]
  refine wa_if_gt (tgt := 55) dX0_tryWorth_51 (by decide) (fun hT51 => ?_) (fun hF51 => absurd (show (0 : Int32) < nI (Wt w) from nI_lt (a := 0) (by omega) (by omega)) hF51)
  refine wa_aload_n dX0_tryWorth_55 rfl rfl ?_
  refine wa_iload_n dX0_tryWorth_56 rfl ?_
  refine wa_ialdN dX0_tryWorth_57 hst.1 (Or.inl rfl) hw (by decide) ?_
  rw [hst.2 w hw]
  refine wa_iload_n dX0_tryWorth_58 rfl ?_
  refine wa_getsN (k := 0) (host := "ConsulDesk") dX0_tryWorth_59 rfl (by decide) hG0 ?_
  refine wa_iload_n dX0_tryWorth_62 rfl ?_
  refine wa_ialdN dX0_tryWorth_63 hcx.2.2.2.1 (Or.inr rfl) hw (by decide) ?_
  rw [hcx.2.2.2.2.1 w hw]
  refine wa_idiv dX0_tryWorth_64 (nI_ne0 (by omega) (by omega)) ?_
  rw [pk_div (by omega) (by omega) (by omega)]
  refine wa_mmin dX0_tryWorth_65 lk_X0_41 (Nat.le_of_ble_eq_true rfl) ?_
  rw [show (if nI (rest / Wt w) < nI (st w) then nI (rest / Wt w) else nI (st w)) = nI (tmo_ st w rest) from by
    have h1 := hstb w
    have h2 : rest / Wt w ≤ rest := Nat.div_le_self _ _
    unfold tmo_
    by_cases h : rest / Wt w < st w
    · rw [if_pos (nI_lt h (by omega)), Nat.min_eq_right (Nat.le_of_lt h)]
    · rw [if_neg (nI_nlt (by omega) (by omega)), Nat.min_eq_left (Nat.not_lt.mp h)]]
  refine wa_istore dX0_tryWorth_68 (by decide) rfl rfl ?_
  refine wa_iload dX0_tryWorth_70 rfl ?_
  refine wa_istore dX0_tryWorth_72 (by decide) rfl rfl ?_
  have e6 : nI (tmo_ st w rest) = nI ((tmo_ st w rest - Sp w) + ((tmo_ st w rest) - (tmo_ st w rest - Sp w) + 1)) - 1 := by
    rw [show (tmo_ st w rest - Sp w) + ((tmo_ st w rest) - (tmo_ st w rest - Sp w) + 1) = (tmo_ st w rest) + 1 from by omega, nI_pred]
  have hl := loop ((tmo_ st w rest) - (tmo_ st w rest - Sp w) + 1) M b (by omega) hn hcx hst htr hbs hQ
  rw [← e6] at hl
  exact wa_kc hkc hks hl
theorem tryW {G : mm_G} {c w0 s0 sa : Nat} {M0 : mm_M} {st : Nat → Nat} (hG0 : G.2.2.2.1 0 = .ref w0) (hG1 : G.2.2.2.1 1 = .ref s0) (hsc : sa ≠ c + 1) (hstb : ∀ i, st i ≤ 10000) : ∀ w, w ≤ 5 → ∀ (d : Nat) (Q : Option Value → mm_M → Prop) (M : mm_M) (tr : Nat → Nat) (rest many : Nat) (b : tw_B), nw_ (fun z => z = c ∨ z = c + 1) (fun z => z = c) M0 M → cx_ M c w0 s0 → cst_ M sa st → many + rest ≤ 5000 → (∀ i, w ≤ i → i < 5 → mm_I M (c + 1) i = nI (tr i)) → bs_ M0 M c b → (∀ M' : mm_M, nw_ (fun z => z = c ∨ z = c + 1) (fun z => z = c) M0 M' → cx_ M' c w0 s0 → cst_ M' sa st → (∀ i, w ≤ i → i < 5 → mm_I M' (c + 1) i = nI (tr i)) → bs_ M0 M' c (tw_ st w tr rest many b) → Q none M') → ma_ G jX0_tryWorth (d + w + 2) (nc_ w) (5 * nc_ w) [.ref c, .ref sa, .int (nI w - 1), .int (nI rest), .int (nI many)] M Q
  | 0, _ => fun d Q M tr rest many b hn hcx hst hmr htr hbs hQ => tryW0 hG0 hG1 hsc hn hcx hst hmr htr hbs hQ
  | w + 1, h => tryWs hG0 hG1 hsc hstb w (by omega) (tryW hG0 hG1 hsc hstb w (by omega))
