/-! the class reads a whole text -/
def lsl_ (M : mm_M) (la : Nat) (ls : List ps_L) : Prop := ∀ k, k < 12 → (∀ q, ls[k]? = some q → ∃ e, mm_R M la k = some e ∧ lnf_ M e q) ∧ (ls[k]? = none → mm_R M la k = none)
theorem lsl_nw {X Y : Nat → Prop} {M M' : mm_M} {la : Nat} {ls : List ps_L} (h : nw_ X Y M M') (ha : mm_sh M la = some (.inr (4, 12))) (hX : ∀ a, X a → mm_sh M a = some (.inl 4)) (hY : ∀ a, ¬ Y a) (c : lsl_ M la ls) : lsl_ M' la ls := by
  intro k hk
  obtain ⟨c1, c2⟩ := c k hk
  have e := (h _ _ ha).2.2.2 (hY la)
  refine ⟨fun q hq => ?_, fun hn => by rw [e]; exact c2 hn⟩
  obtain ⟨u, u1, u2⟩ := c1 q hq
  exact ⟨u, by rw [e]; exact u1, lnf_nw h hX (fun a ha => absurd ha (hY a)) u2⟩
theorem lsl_snoc {M : mm_M} {la e : Nat} {ls : List ps_L} {q : ps_L} (ha : mm_sh M la = some (.inr (4, 12))) (c : lsl_ M la ls) (hl : ls.length < 12) (hq : lnf_ M e q) : lsl_ (mm_sR M la ls.length (some e)) la (ls ++ [q]) := by
  have hn : nw_ (fun _ => False) (fun z => z = la) M (mm_sR M la ls.length (some e)) := nw_R (nw_rf _ _ _) (Or.inl rfl)
  have hk : ∀ e q, lnf_ M e q → lnf_ (mm_sR M la ls.length (some e)) e q := fun e q h => lnf_nw (X := fun _ => False) (Y := fun z => z = la) (nw_R (nw_rf _ _ _) (Or.inl rfl)) (fun a h => h.elim) (fun a h => by rw [h]; exact ha) h
  have hk2 : ∀ e' q, lnf_ M e' q → lnf_ (mm_sR M la ls.length (some e)) e' q := fun e' q h => lnf_nw hn (fun a h => h.elim) (fun a h => by rw [h]; exact ha) h
  intro k hk3
  by_cases h : k = ls.length
  · subst h
    refine ⟨fun q' e' => ⟨e, mR_eq _ _ _ _, ?_⟩, fun e' => ?_⟩
    · rw [List.getElem?_append_right (Nat.le_refl _), Nat.sub_self] at e'
      cases e'
      exact hk2 e q hq
    · rw [List.getElem?_append_right (Nat.le_refl _), Nat.sub_self] at e'
      cases e'
  · obtain ⟨c1, c2⟩ := c k hk3
    rw [mR_ne _ _ _ _ _ h]
    refine ⟨fun q' e' => ?_, fun e' => c2 ?_⟩
    · rcases rr_snoc e' with e1 | ⟨e1, -⟩
      · obtain ⟨u, u1, u2⟩ := c1 q' e1
        exact ⟨u, u1, hk2 u q' u2⟩
      · exact absurd e1 h
    · rw [List.getElem?_eq_none_iff] at e' ⊢
      rw [List.length_append] at e'
      simp only [List.length_cons, List.length_nil] at e'
      omega
def ls_cat (ds : List ps_L) : (Int32 × Nat) ⊕ List ps_L → (Int32 × Nat) ⊕ List ps_L
  | .inl q => .inl q
  | .inr q => .inr (ds ++ q)
theorem ls_cat_cat (ds es : List ps_L) (x : (Int32 × Nat) ⊕ List ps_L) : ls_cat ds (ls_cat es x) = ls_cat (ds ++ es) x := by
  cases x with
  | inl q => rfl
  | inr q => show Sum.inr (ds ++ (es ++ q)) = Sum.inr (ds ++ es ++ q); rw [List.append_assoc]
theorem ls_cat_nil (x : (Int32 × Nat) ⊕ List ps_L) : ls_cat [] x = x := by
  cases x with
  | inl q => rfl
  | inr q => rfl
theorem psl_i {K V : Nat → Int32} {r a i : Nat} {q : Int32 × Nat} (h : ps_line K V a i = .inl q) : ps_lines K V (r + 1) a i = .inl q := by simp only [ps_lines, h]
theorem psl_r {K V : Nat → Int32} {r a i j : Nat} {ln : ps_L} (h : ps_line K V a i = .inr (ln, j)) : ps_lines K V (r + 1) a i = if K j = 59 then ls_cat [ln] (ps_lines K V r (a + 1) (j + 1)) else if K j = 0 then .inr [ln] else .inl (1, j) := by
  simp only [ps_lines, h]
  split
  · cases ps_lines K V r (a + 1) (j + 1) with
    | inl q => rfl
    | inr q => rfl
  · rfl
theorem ps_line_12 {K V : Nat → Int32} {i j : Nat} {q : ps_L} (h : ps_line K V 12 i = .inr (q, j)) : False := by
  unfold ps_line at h
  split at h
  · cases h
  · rw [if_pos rfl] at h; cases h

theorem kr_read {G : mm_G} {d : Nat} {Q : Option Value → mm_M → Prop} {M : mm_M} {r t m : Nat} {K L V : Nat → Int32} (hm3 : m ≤ 300) (hm0 : K m = 0) (hc : rc_ K L V M r t) (hF : ∀ (q : Int32) (j : Nat) (M' : mm_M), ps_lines K V 13 0 0 = .inl (q, j) → nw_ (fun z => z = r) (fun _ => False) M M' → mm_I M' r 0 = q → ¬ q = 0 ∧ mm_I M' r 1 = L j → Q (some .null) M') (hO : ∀ (ls : List ps_L) (la : Nat) (M' : mm_M), ps_lines K V 13 0 0 = .inr ls → nw_ (fun z => z = r) (fun _ => False) M M' → mm_I M' r 0 = 0 → mm_sh M' la = some (.inr (4, 12)) → lsl_ M' la ls → (∀ u, ¬ mm_sh M la = some u) → Q (some (.ref la)) M') : ma_ G jX4_read (d + 5) 170 545 [.ref r] M Q := by
  refine ma_of [some (.ref r), none, none, none] (by decide) rfl (Nat.le_of_ble_eq_true rfl) ?_
  have s83 : ∀ (la : Nat) (M7 : mm_M) (σ7 : (Int32 × Int32) ⊕ Nat), nw_ (fun z => z = r) (fun _ => False) M M7 → rx_ m K L V M7 r t σ7 → mm_sh M7 la = some (.inr (4, 12)) → (∀ u, ¬ mm_sh M la = some u) → ((∃ q j, σ7 = .inl (q, L j) ∧ ps_lines K V 13 0 0 = .inl (q, j)) ∨ ∃ j ls, σ7 = .inr j ∧ ps_lines K V 13 0 0 = .inr ls ∧ lsl_ M7 la ls) → wa_ 0 G jX4_read (d + 5) 170 545 Q 0 0 M7 83 [some (.ref r), some (.ref la), none, none] [] := by
    intro la M7 σ7 hn7 hx7 hla hfr hor
    refine wa_aload_n dX4_read_83 rfl rfl ?_
    refine wa_getI (q := (RX4, TX4, 6)) (ci := 4) (k := 0) dX4_read_84 rfl (by decide) wf_X4_9 hx7.2.1.1 rfl ?_
    refine wa_if_ne (tgt := 94) dX4_read_87 (by decide) (fun hT87 => ?_) (fun hF87 => ?_)
    · refine wa_null dX4_read_94 ?_
      exact wa_aret dX4_read_95 rfl (Or.inr ⟨_, rfl⟩) rfl (by
      first
      | (rcases hor with ⟨q, j, g1, g2⟩ | ⟨j, ls, g1, g2, g3⟩
         · rw [g1] at hx7
           exact absurd hF87 (fun h => hx7.2.2.2.1 (hx7.2.2.1.symm.trans h))
         · rw [g1] at hx7
           exact hO ls la M7 g2 hn7 hx7.2.2.2.1 hla g3 hfr)
      | (rcases hor with ⟨q, j, g1, g2⟩ | ⟨j, ls, g1, g2, g3⟩
         · rw [g1] at hx7
           exact hF q j M7 g2 hn7 hx7.2.2.1 hx7.2.2.2
         · rw [g1] at hx7
           exact absurd hx7.2.2.2.1 hT87))
    · refine wa_aload_n dX4_read_90 rfl rfl ?_
      refine wa_goto (tgt := 95) dX4_read_91 (by decide) ?_
      exact wa_aret dX4_read_95 rfl (Or.inr ⟨_, rfl⟩) rfl (by
      first
      | (rcases hor with ⟨q, j, g1, g2⟩ | ⟨j, ls, g1, g2, g3⟩
         · rw [g1] at hx7
           exact absurd hF87 (fun h => hx7.2.2.2.1 (hx7.2.2.1.symm.trans h))
         · rw [g1] at hx7
           exact hO ls la M7 g2 hn7 hx7.2.2.2.1 hla g3 hfr)
      | (rcases hor with ⟨q, j, g1, g2⟩ | ⟨j, ls, g1, g2, g3⟩
         · rw [g1] at hx7
           exact hF q j M7 g2 hn7 hx7.2.2.1 hx7.2.2.2
         · rw [g1] at hx7
           exact absurd hx7.2.2.2.1 hT87))
  have s71 : ∀ (la : Nat) (M6 : mm_M) (σ6 : (Int32 × Int32) ⊕ Nat), nw_ (fun z => z = r) (fun _ => False) M M6 → rx_ m K L V M6 r t σ6 → mm_sh M6 la = some (.inr (4, 12)) → (∀ u, ¬ mm_sh M la = some u) → ((∃ q j, σ6 = .inl (q, L j) ∧ ps_lines K V 13 0 0 = .inl (q, j)) ∨ ∃ j ls, σ6 = .inr j ∧ ps_lines K V 13 0 0 = (if K j = 0 then .inr ls else .inl (1, j)) ∧ lsl_ M6 la ls) → wa_ 0 G jX4_read (d + 5) 170 545 Q 0 0 M6 71 [some (.ref r), some (.ref la), none, none] [] := by
    intro la M6 σ6 hn6 hx6 hla hfr hor
    refine wa_aload_n dX4_read_71 rfl rfl ?_
    refine wa_getI (q := (RX4, TX4, 6)) (ci := 4) (k := 4) dX4_read_72 rfl (by decide) wf_X4_21 hx6.2.1.1 rfl ?_
    refine wa_if_eq (tgt := 83) dX4_read_75 (by decide) (fun hT75 => ?_) (fun hF75 => ?_)
    · refine s83 la M6 _ hn6 hx6 hla hfr ?_
      rcases hor with ⟨q, j, g1, g2⟩ | ⟨j, ls, g1, g2, g3⟩
      · exact Or.inl ⟨q, j, g1, g2⟩
      · rw [if_pos ((rx_v hx6 j g1).2.symm.trans hT75)] at g2
        exact Or.inr ⟨j, ls, g1, g2, g3⟩
    · refine wa_aload_n dX4_read_78 rfl rfl ?_
      refine wa_iconst (v := 1) dX4_read_79 (by decide) ?_
      refine wa_callV  (q := (RX4, TX4, 6)) (As := [.int 1]) dX4_read_80 lk_X4_41 rfl rfl hx6.2.1.1 rfl rfl (Nat.le_of_ble_eq_true rfl) (Nat.le_of_eq (Nat.zero_add _)) (Nat.le_of_eq (Nat.zero_add _)) (kr_blame 1 (by decide) hx6 (fun M7 hn7 hx7 => ?_))
      refine s83 la M7 _ (nw_tr hn6 hn7) hx7 (nw_sh hn7 hla) hfr (Or.inl ?_)
      rcases hor with ⟨q, j, g1, g2⟩ | ⟨j, ls, g1, g2, g3⟩
      · exact ⟨q, j, by rw [g1]; rfl, g2⟩
      · rw [if_neg (fun h => hF75 ((rx_v hx6 j g1).2.trans h))] at g2
        exact ⟨1, j, by rw [g1]; rfl, g2⟩
  have lp : ∀ (la rr a : Nat) (M3 : mm_M) (j : Nat) (ds : List ps_L), rr + a = 13 → a ≤ 12 → nw_ (fun z => z = r) (fun _ => False) M M3 → rx_ m K L V M3 r t (.inr j) → mm_sh M3 la = some (.inr (4, 12)) → (∀ u, ¬ mm_sh M la = some u) → ps_lines K V 13 0 0 = ls_cat ds (ps_lines K V rr a j) → ds.length = a → lsl_ M3 la ds → wa_ 0 G jX4_read (d + 5) 170 545 Q (13 * rr) (41 * rr) M3 31 [some (.ref r), some (.ref la), some (.int (nI a)), none] [] := by
    intro la rr
    induction rr with
    | zero => intro a M3 j ds h1 h2; exact absurd h1 (by omega)
    | succ rr ih =>
      intro a M3 j ds hra ha hn3 hx3 hla hfr hpl hdl hds
      have s53 : ∀ (e : Nat) (M5 : mm_M), nw_ (fun z => z = r) (fun _ => False) M M5 → rx_ m K L V M5 r t (rd_ln K L V a (.inr j)) → mm_sh M5 la = some (.inr (4, 12)) → (∀ q j2, ps_line K V a j = .inr (q, j2) → a < 12 ∧ lsl_ M5 la (ds ++ [q])) → wa_ 0 G jX4_read (d + 5) 170 545 Q (13 * rr) (41 * rr) M5 53 [some (.ref r), some (.ref la), some (.int (nI a)), some (.ref e)] [] := by
        intro e M5 hn5 hx5 hla5 hok
        refine wa_aload_n dX4_read_53 rfl rfl ?_
        refine wa_bipush (v := 59) dX4_read_54 (by decide) ?_
        refine wa_callV  (q := (RX4, TX4, 6)) (As := [.int 59]) dX4_read_56 lk_X4_31 rfl rfl hx5.2.1.1 rfl rfl (Nat.le_of_ble_eq_true rfl) (Nat.le_of_eq (Nat.zero_add _)) (Nat.le_of_eq (Nat.zero_add _)) (kr_skip 59 hx5 (fun _ _ _ => by decide) (fun i6 M6 e6 hk6 hn6 hx6 => ?_) (fun hk6 => ?_))
        · refine wa_if_ne (tgt := 65) dX4_read_59 (by decide) (fun _ => ?_) (fun h9 => absurd h9 (by decide))
          refine wa_iinc (v := nI (a + 1)) dX4_read_65 rfl (ni_i1 a) (by decide) rfl rfl ?_
          refine wa_goto (tgt := 31) dX4_read_68 (by decide) ?_
          cases h9 : ps_line K V a j with
          | inl q =>
            rw [show rd_ln K L V a (.inr j) = rd_lr L (ps_line K V a j) from rfl, h9] at e6
            cases e6
          | inr z =>
            rw [show rd_ln K L V a (.inr j) = rd_lr L (ps_line K V a j) from rfl, h9] at e6
            cases e6
            obtain ⟨q, j2⟩ := z
            obtain ⟨o1, o2⟩ := hok q j2 h9
            refine wa_set0 3 (ih (a + 1) M6 (j2 + 1) (ds ++ [q]) (by omega) (by omega) (nw_tr hn5 hn6) hx6 (nw_sh hn6 hla5) hfr ?_ (by rw [List.length_append, hdl]; rfl) (lsl_nw hn6 hla5 (fun z hz => by rw [hz]; exact hx5.2.1.1) (fun _ h => h) o2))
            rw [hpl, psl_r h9, if_pos hk6, ls_cat_cat]
        · refine wa_if_ne (tgt := 65) dX4_read_59 (by decide) (fun h9 => absurd h9 (by decide)) (fun _ => ?_)
          refine wa_goto (tgt := 71) dX4_read_62 (by decide) ?_
          refine wa_set0 2 (wa_set0 3 (wa_kc (Nat.zero_le _) (Nat.zero_le _) (s71 la M5 _ hn5 hx5 hla5 hfr ?_)))
          cases h9 : ps_line K V a j with
          | inl q =>
            refine Or.inl ⟨q.1, q.2, ?_, ?_⟩
            · rw [show rd_ln K L V a (.inr j) = rd_lr L (ps_line K V a j) from rfl, h9]
              rfl
            · rw [hpl, psl_i h9]
              rfl
          | inr z =>
            obtain ⟨q, j2⟩ := z
            obtain ⟨o1, o2⟩ := hok q j2 h9
            have e9 : rd_ln K L V a (.inr j) = .inr j2 := by rw [show rd_ln K L V a (.inr j) = rd_lr L (ps_line K V a j) from rfl, h9]; rfl
            refine Or.inr ⟨j2, ds ++ [q], e9, ?_, o2⟩
            rw [hpl, psl_r h9, if_neg (hk6 j2 e9)]
            split <;> rfl
      refine wa_iload_n dX4_read_31 rfl ?_
      refine wa_bipush (v := 12) dX4_read_32 (by decide) ?_
      refine wa_icmp_gt (tgt := 71) dX4_read_34 (by decide) (fun hT34 => absurd hT34 (fun h => absurd ((nI_ltI (a := 12) (by decide) (by omega)).mp h) (by omega))) (fun hF34 => ?_)
      refine wa_aload_n dX4_read_37 rfl rfl ?_
      refine wa_iload_n dX4_read_38 rfl ?_
      refine wa_callV (kc' := 13 * rr) (ks' := 41 * rr) (q := (RX4, TX4, 6)) (As := [.int (nI a)]) dX4_read_39 lk_X4_37 rfl rfl hx3.2.1.1 rfl rfl (Nat.le_of_ble_eq_true rfl) (by omega) (by omega) (kr_readLine a hx3 ha (fun e M4 hn4 hx4 hl4 hfe hln => ?_))
      have hla4 := nw_sh hn4 hla
      have hds4 := lsl_nw hn4 hla (fun z hz => by rw [hz]; exact hx3.2.1.1) (fun _ h => h) hds
      refine wa_astore_n dX4_read_42 (by decide) rfl rfl rfl ?_
      refine wa_iload_n dX4_read_43 rfl ?_
      refine wa_aload_n dX4_read_44 rfl rfl ?_
      refine wa_alen dX4_read_45 hla4 ?_
      refine wa_icmp_ge (tgt := 53) dX4_read_46 (by decide) (fun hT46 => ?_) (fun hF46 => ?_)
      · have a12 : a = 12 := by
          have := ni_le (a := 12) hT46 (by decide) (by omega)
          omega
        exact s53 e M4 (nw_tr hn3 hn4) hx4 hla4 (fun q j2 h9 => absurd (ps_line_12 (by rw [a12] at h9; exact h9)) id)
      · refine wa_aload_n dX4_read_49 rfl rfl ?_
        refine wa_iload_n dX4_read_50 rfl ?_
        refine wa_aload_n dX4_read_51 rfl rfl ?_
        refine wa_aastN (q := (RX1, TX1, 3)) dX4_read_52 hla4 (by decide) (by decide) hl4.1 rfl rfl (ni_nle (a := 12) hF46 (by decide) (by omega)) (by decide) ?_
        have a12 : a < 12 := ni_nle (a := 12) hF46 (by decide) (by omega)
        have hYr : ¬ r = la := fun e9 => by have h9 := hx4.2.1.1; rw [e9, hla4] at h9; cases h9
        have hYt : ¬ t = la := fun e9 => by have h9 := hx4.2.1.2.2.1.1; rw [e9, hla4] at h9; cases h9
        refine s53 e _ (nw_R (nw_tr hn3 hn4) (Or.inr hfr)) (rx_nw (X := fun _ => False) (Y := fun z => z = la) (nw_R (nw_rf _ _ _) (Or.inl rfl)) ⟨id, id, id, id⟩ ⟨hYr, hYt⟩ hx4) hla4 (fun q j2 h9 => ⟨a12, ?_⟩)
        have h8 := lsl_snoc hla4 hds4 (by omega) (hln j q j2 rfl h9)
        rw [hdl] at h8
        exact h8
  have hr := rc_r hc
  have hn1 : nw_ (fun z => z = r) (fun _ => False) M (mm_sI (mm_sI (mm_sI M r 0 0) r 3 0) r 4 13) := nw_I (nw_I (nw_I (nw_rf _ _ _) (Or.inl rfl)) (Or.inl rfl)) (Or.inl rfl)
  have hc1 := rc_nw hn1 ⟨Ne.symm hr.1, Ne.symm hr.2.1, Ne.symm hr.2.2.1⟩ ⟨id, id⟩ hc
  have a0 : mm_I (mm_sI (mm_sI (mm_sI M r 0 0) r 3 0) r 4 13) r 0 = 0 := by simp [mm_I_sI]
  have a3 : mm_I (mm_sI (mm_sI (mm_sI M r 0 0) r 3 0) r 4 13) r 3 = nI 0 := by simp [mm_I_sI]; rfl
  have a4 : mm_I (mm_sI (mm_sI (mm_sI M r 0 0) r 3 0) r 4 13) r 4 = 13 := by simp [mm_I_sI]
  refine wa_aload_n dX4_read_0 rfl rfl ?_
  refine wa_iconst (v := 0) dX4_read_1 (by decide) ?_
  refine wa_put (q := (RX4, TX4, 6)) (ci := 4) (k := 0) dX4_read_2 rfl (by decide) wf_X4_9 rfl hc.1 rfl ?_
  rw [mm_putI]
  refine wa_aload_n dX4_read_5 rfl rfl ?_
  refine wa_iconst (v := 0) dX4_read_6 (by decide) ?_
  refine wa_put (q := (RX4, TX4, 6)) (ci := 4) (k := 3) dX4_read_7 rfl (by decide) wf_X4_18 rfl hc.1 rfl ?_
  rw [mm_putI]
  refine wa_aload_n dX4_read_10 rfl rfl ?_
  refine wa_bipush (v := 13) dX4_read_11 (by decide) ?_
  refine wa_put (q := (RX4, TX4, 6)) (ci := 4) (k := 4) dX4_read_13 rfl (by decide) wf_X4_21 rfl hc.1 rfl ?_
  rw [mm_putI]
  refine wa_aload_n dX4_read_16 rfl rfl ?_
  refine wa_bipush (v := 13) dX4_read_17 (by decide) ?_
  refine wa_callV  (q := (RX4, TX4, 6)) (As := [.int 13]) dX4_read_19 lk_X4_31 rfl rfl hc.1 rfl rfl (Nat.le_of_ble_eq_true rfl) (Nat.le_of_eq (Nat.zero_add _)) (Nat.le_of_eq (Nat.zero_add _)) (k_X4_skip 13 0 hc1 (fun _ _ => ⟨a3, by decide⟩) (fun h => absurd ⟨a0, a4⟩ h) (fun _ _ => ?_))
  have hn2 : nw_ (fun z => z = r) (fun _ => False) M (rk_ (mm_sI (mm_sI (mm_sI M r 0 0) r 3 0) r 4 13) r K L V 0) := nw_I (nw_I (nw_I (nw_I hn1 (Or.inl rfl)) (Or.inl rfl)) (Or.inl rfl)) (Or.inl rfl)
  have hx2 : rx_ m K L V (rk_ (mm_sI (mm_sI (mm_sI M r 0 0) r 3 0) r 4 13) r K L V 0) r t (.inr 0) := by
    refine ⟨⟨hm3, hm0⟩, rc_nw hn2 ⟨Ne.symm hr.1, Ne.symm hr.2.1, Ne.symm hr.2.2.1⟩ ⟨id, id⟩ hc, Nat.zero_le _, ?_, ?_, ?_, ?_, ?_⟩ <;> (unfold rk_; simp [mm_I_sI])
  generalize rk_ (mm_sI (mm_sI (mm_sI M r 0 0) r 3 0) r 4 13) r K L V 0 = M2 at hn2 hx2 ⊢
  refine wa_pop dX4_read_22 rfl ?_
  refine wa_bipush (v := 12) dX4_read_23 (by decide) ?_
  refine wa_anew (kc := 169) (ks := 533) (k := 4) (n := 12) (CC := "ConsulDesk$Line") dX4_read_25 (by decide) rfl wc_X4_35 (by decide) (by decide) (by decide) (by decide) (fun hext3 => ?_)
  have hx3 := rx_new hext3 hx2
  have hla3 := mm_sh_z M2 (.inr (4, 12))
  obtain ⟨la, ela⟩ : ∃ la, la = mm_z M2 := ⟨_, rfl⟩
  have hfr := nw_fresh hn2 hext3
  have hnil := mm_new_R M2 (.inr (4, 12))
  have hn3 := nw_new hn2 hext3
  rw [← ela] at hfr hla3 hnil ⊢
  refine wa_astore_n dX4_read_28 (by decide) rfl rfl rfl ?_
  refine wa_iconst (v := 0) dX4_read_29 (by decide) ?_
  refine wa_istore_n dX4_read_30 (by decide) rfl rfl ?_
  exact lp la 13 0 _ 0 [] rfl (by omega) hn3 hx3 hla3 hfr (ls_cat_nil _).symm rfl (fun k hk => ⟨fun q e => (by cases e), fun _ => hnil k⟩)
