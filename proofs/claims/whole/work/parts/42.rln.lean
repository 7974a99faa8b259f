/-! a line, a whole text, by the class -/
theorem nw_trf {X Y X2 Y2 : Nat → Prop} {A B C : mm_M} (h : nw_ X Y A B) (g : nw_ X2 Y2 B C) (hX : ∀ a u, X2 a → mm_sh A a = some u → X a) (hY : ∀ a u, Y2 a → mm_sh A a = some u → Y a) : nw_ X Y A C := by
  intro a s ha
  obtain ⟨h1, h2, h3, h4⟩ := h a s ha
  obtain ⟨g1, g2, g3, g4⟩ := g a s h1
  exact ⟨g1, fun q => (g2 (fun z => q (hX a s z ha))).trans (h2 q), g3.trans h3, fun q => (g4 (fun z => q (hY a s z ha))).trans (h4 q)⟩
def lnf_ (M : mm_M) (e : Nat) (q : ps_L) : Prop := lin_ M e ∧ mm_I M e 0 = q.1 ∧ tsl_ M (e + 1) 8 q.2.1 ∧ tsl_ M (e + 2) 7 q.2.2
theorem lnf_nw {X Y : Nat → Prop} {M M' : mm_M} {e : Nat} {q : ps_L} (h : nw_ X Y M M') (hX : ∀ a, X a → mm_sh M a = some (.inl 4)) (hY : ∀ a, Y a → mm_sh M a = some (.inr (4, 12))) (c : lnf_ M e q) : lnf_ M' e q := by
  obtain ⟨c1, c2, c3, c4⟩ := c
  refine ⟨lin_nw h (fun z => ?_) c1, ?_, tsl_nw h (lin_s1 c1) (fun z => ?_) (fun u hu h9 => ?_) c3, tsl_nw h (lin_s2 c1) (fun z => ?_) (fun u hu h9 => ?_) c4⟩
  · have h9 := hY _ z; rw [c1.1] at h9; cases h9
  · rw [(h _ _ c1.1).2.1 (fun z => by have h9 := hX _ z; rw [c1.1] at h9; cases h9)]; exact c2
  · have h9 := hY _ z; rw [lin_s1 c1] at h9; cases h9
  · have h8 := hX _ hu; rw [h9] at h8; cases h8
  · have h9 := hY _ z; rw [lin_s2 c1] at h9; cases h9
  · have h8 := hX _ hu; rw [h9] at h8; cases h8
def rd_lr (L : Nat → Int32) : (Int32 × Nat) ⊕ (ps_L × Nat) → (Int32 × Int32) ⊕ Nat
  | .inl q => .inl (q.1, L q.2)
  | .inr q => .inr q.2
def rd_ln (K L V : Nat → Int32) (a : Nat) : (Int32 × Int32) ⊕ Nat → (Int32 × Int32) ⊕ Nat
  | .inl q => .inl q
  | .inr i => rd_lr L (ps_line K V a i)
def ps_l3 (K V : Nat → Int32) (i : Nat) (ts : List ps_T) (j : Nat) : (Int32 × Nat) ⊕ (ps_L × Nat) := if ¬ K j = 7 then .inl (1, j) else match ps_run (ps_term K V) K 43 5 0 (j + 1) with
  | .inl q => .inl q
  | .inr (tm, j') => .inr ((V (i + 1), ts, tm), j')
def ps_m (K V : Nat → Int32) (i : Nat) : (Int32 × Nat) ⊕ (List ps_T × Nat) → (Int32 × Nat) ⊕ (ps_L × Nat)
  | .inl q => .inl q
  | .inr q => ps_l3 K V i q.1 q.2
theorem ps_line_t {K V : Nat → Int32} {a i : Nat} (h0 : K i = 4) (ha : ¬ a = 12) (h1 : K (i + 1) = 2) (h2 : ¬ 9 < V (i + 1)) {x : (Int32 × Nat) ⊕ (List ps_T × Nat)} (hx : (if K (i + 2) = 5 then ps_run (ps_test K V) K 6 5 0 (i + 3) else .inr ([], i + 2)) = x) : ps_line K V a i = ps_m K V i x := by
  unfold ps_line
  rw [if_neg (fun h => h h0), if_neg ha, if_neg (fun h => h h1), if_neg h2, hx]
  cases x with
  | inl q => rfl
  | inr q => rfl
theorem rx_e {m : Nat} {K L V : Nat → Int32} {M M' : mm_M} {r t e ci : Nat} {σ : (Int32 × Int32) ⊕ Nat} (h : nw_ (fun z => z = e) (fun z => z = e) M M') (he : mm_sh M e = some (.inl ci)) (h4 : ci ≠ 4) (h9 : ci ≠ 9) (c : rx_ m K L V M r t σ) : rx_ m K L V M' r t σ := by
  have e1 : ¬ r = e := fun q => by have w := c.2.1.1; rw [q, he] at w; cases w; exact h4 rfl
  have e2 : ¬ t = e := fun q => by have w := c.2.1.2.2.1.1; rw [q, he] at w; cases w; exact h9 rfl
  have e3 : ¬ t + 1 = e := fun q => by have w := tok_s0 c.2.1.2.2.1; rw [q, he] at w; cases w
  have e4 : ¬ t + 2 = e := fun q => by have w := tok_s1 c.2.1.2.2.1; rw [q, he] at w; cases w
  have e5 : ¬ t + 3 = e := fun q => by have w := tok_s2 c.2.1.2.2.1; rw [q, he] at w; cases w
  exact rx_nw h ⟨e1, e3, e4, e5⟩ ⟨e1, e2⟩ c
/-- the fault is known -/
def lf_ (K L V : Nat → Int32) (a : Nat) (σ σ1 : (Int32 × Int32) ⊕ Nat) : Prop := ∃ f, σ1 = .inl f ∧ rd_ln K L V a σ = .inl f

theorem kr_readLine {G : mm_G} {d : Nat} {Q : Option Value → mm_M → Prop} {M : mm_M} {r t m : Nat} {K L V : Nat → Int32} {σ : (Int32 × Int32) ⊕ Nat} (a : Nat) (hx : rx_ m K L V M r t σ) (ha : a ≤ 12) (hQ : ∀ (e : Nat) (M' : mm_M), nw_ (fun z => z = r) (fun _ => False) M M' → rx_ m K L V M' r t (rd_ln K L V a σ) → lin_ M' e → (∀ u, ¬ mm_sh M e = some u) → (∀ i q j, σ = .inr i → ps_line K V a i = .inr (q, j) → lnf_ M' e q) → Q (some (.ref e)) M') : ma_ G jX4_readLine (d + 4) 13 41 [.ref r, .int (nI a)] M Q := by
  refine ma_of [some (.ref r), some (.int (nI a)), none] (by decide) rfl (Nat.le_of_ble_eq_true rfl) ?_
  have s73 : ∀ (e : Nat) (M5 : mm_M) (σ5 : (Int32 × Int32) ⊕ Nat), nw_ (fun z => z = r) (fun _ => False) M M5 → rx_ m K L V M5 r t σ5 → lin_ M5 e → (∀ u, ¬ mm_sh M e = some u) → (∀ u, ¬ mm_sh M (e + 1) = some u) → (∀ u, ¬ mm_sh M (e + 2) = some u) → (∀ j, mm_R M5 (e + 2) j = none) → (lf_ K L V a σ σ5 ∨ ∃ i j ts, σ = .inr i ∧ σ5 = .inr j ∧ ps_line K V a i = ps_l3 K V i ts j ∧ mm_I M5 e 0 = V (i + 1) ∧ tsl_ M5 (e + 1) 8 ts) → wa_ 0 G jX4_readLine (d + 4) 13 41 Q 5 15 M5 73 [some (.ref r), some (.int (nI a)), some (.ref e)] [] := by
    intro e M5 σ5 hn5 hx5 hl5 hf0 hf1 hf2 hnil hor
    refine wa_aload_n dX4_readLine_73 rfl rfl ?_
    refine wa_bipush (v := 7) dX4_readLine_74 (by decide) ?_
    refine wa_callV  (q := (RX4, TX4, 6)) (As := [.int 7]) dX4_readLine_76 lk_X4_45 rfl rfl hx5.2.1.1 rfl rfl (Nat.le_of_ble_eq_true rfl) (Nat.le_of_eq (Nat.zero_add _)) (Nat.le_of_eq (Nat.zero_add _)) (kr_need 7 hx5 (fun _ _ _ => by decide) (fun v M6 hn6 hx6 hv6 => ?_))
    have hl6 := lin_nw hn6 id hl5
    have hnil6 : ∀ j, mm_R M6 (e + 2) j = none := fun j => by rw [(hn6 _ _ (lin_s2 hl5)).2.2.2 id]; exact hnil j
    refine wa_pop dX4_readLine_79 rfl ?_
    refine wa_aload_n dX4_readLine_80 rfl rfl ?_
    refine wa_aload_n dX4_readLine_81 rfl rfl ?_
    refine wa_callV (kc' := 0) (ks' := 0) (q := (RX4, TX4, 6)) (As := [.ref e]) dX4_readLine_82 lk_X4_55 rfl rfl hx6.2.1.1 rfl rfl (Nat.le_of_ble_eq_true rfl) (by decide) (by decide) (kr_readTerms hx6 hl6 hnil6 (fun M7 hn7 hx7 ht7 => ?_))
    have hl7 := lin_nw hn7 (fun h => by omega) hl6
    refine wa_aload_n dX4_readLine_85 rfl rfl ?_
    exact wa_aret dX4_readLine_86 rfl (Or.inl ⟨_, rfl⟩) rfl (by
      refine hQ e M7 (nw_trf (nw_tr hn5 hn6) hn7 (fun _ _ h _ => h) (fun z u hz hu => by subst hz; exact absurd hu (hf2 u))) ?_ hl7 hf0 (fun i q j e1 e2 => ?_)
      · rw [show rd_ln K L V a σ = rd_run L ((ps_run (ps_term K V) K 43) 5 0) (rd_nd K L 7 σ5) from by
          rcases hor with ⟨f, g1, g2⟩ | ⟨i, j, ts, g1, g2, g3, g4, g5⟩
          · rw [g2, g1]; rfl
          · rw [g1, g2]
            show rd_lr L (ps_line K V a i) = _
            rw [g3]
            by_cases h7 : K j = 7
            · rw [show rd_nd K L 7 (.inr j) = .inr (j + 1) from if_pos h7]
              show _ = rd_rr L _
              unfold ps_l3
              rw [if_neg (fun h => h h7)]
              cases (ps_run (ps_term K V) K 43) 5 0 (j + 1) with
              | inl q => rfl
              | inr q => rfl
            · rw [show rd_nd K L 7 (.inr j) = .inl (1, L j) from if_neg h7]
              unfold ps_l3
              rw [if_pos h7]
              rfl]
        exact hx7
      · rcases hor with ⟨f, g1, g2⟩ | ⟨i', j', ts, g1, g2, g3, g4, g5⟩
        · rw [e1] at g2
          have g3 : rd_ln K L V a (.inr i) = .inr j := by show rd_lr L (ps_line K V a i) = _; rw [e2]; rfl
          rw [g3] at g2
          cases g2
        · rw [g1] at e1
          cases e1
          rw [g3] at e2
          unfold ps_l3 at e2
          by_cases h7 : K j' = 7
          · rw [if_neg (fun h => h h7)] at e2
            cases h8 : (ps_run (ps_term K V) K 43) 5 0 (j' + 1) with
            | inl z => rw [h8] at e2; cases e2
            | inr z =>
              rw [h8] at e2
              cases e2
              have hre : ∀ w, w = r → mm_sh M5 w = some (.inl 4) := fun w hw => by rw [hw]; exact hx5.2.1.1
              have t6 := tsl_nw hn6 (lin_s1 hl5) id (fun z hz h9 => by rw [hre z hz] at h9; cases h9) g5
              have t7 := tsl_nw hn7 (lin_s1 hl6) (fun h => by omega) (fun z hz h9 => by rw [hz, hx6.2.1.1] at h9; cases h9) t6
              refine ⟨hl7, ?_, t7, ht7 (j' + 1) _ _ (by rw [g2]; exact if_pos h7) h8⟩
              rw [(hn7 _ _ hl6.1).2.1 (fun h => by have h9 := hl6.1; rw [h, hx6.2.1.1] at h9; cases h9), (hn6 _ _ hl5.1).2.1 (fun h => by have h9 := hl5.1; rw [h, hx5.2.1.1] at h9; cases h9)]
              exact g4
          · rw [if_pos h7] at e2
            cases e2)
  have s60 : ∀ (e : Nat) (M4 : mm_M) (σ4 : (Int32 × Int32) ⊕ Nat), nw_ (fun z => z = r) (fun _ => False) M M4 → rx_ m K L V M4 r t σ4 → lin_ M4 e → (∀ u, ¬ mm_sh M e = some u) → (∀ u, ¬ mm_sh M (e + 1) = some u) → (∀ u, ¬ mm_sh M (e + 2) = some u) → (∀ j, mm_R M4 (e + 1) j = none) → (∀ j, mm_R M4 (e + 2) j = none) → (lf_ K L V a σ σ4 ∨ ∃ i, σ = .inr i ∧ σ4 = .inr (i + 2) ∧ K i = 4 ∧ ¬ a = 12 ∧ K (i + 1) = 2 ∧ ¬ 9 < V (i + 1) ∧ mm_I M4 e 0 = V (i + 1)) → wa_ 0 G jX4_readLine (d + 4) 13 41 Q 10 30 M4 60 [some (.ref r), some (.int (nI a)), some (.ref e)] [] := by
    intro e M4 σ4 hn4 hx4 hl4 hf0 hf1 hf2 hnil1 hnil2 hor
    refine wa_aload_n dX4_readLine_60 rfl rfl ?_
    refine wa_iconst (v := 5) dX4_readLine_61 (by decide) ?_
    refine wa_callV  (q := (RX4, TX4, 6)) (As := [.int 5]) dX4_readLine_62 lk_X4_31 rfl rfl hx4.2.1.1 rfl rfl (Nat.le_of_ble_eq_true rfl) (Nat.le_of_eq (Nat.zero_add _)) (Nat.le_of_eq (Nat.zero_add _)) (kr_skip 5 hx4 (fun _ _ _ => by decide) (fun i5 M5 e5 hk5 hn5 hx5 => ?_) (fun hk5 => ?_))
    · refine wa_if_eq (tgt := 73) dX4_readLine_65 (by decide) (fun h9 => absurd h9 (by decide)) (fun _ => ?_)
      have hl5 := lin_nw hn5 id hl4
      have hnil5 : ∀ j, mm_R M5 (e + 1) j = none := fun j => by rw [(hn5 _ _ (lin_s1 hl4)).2.2.2 id]; exact hnil1 j
      have hnil52 : ∀ j, mm_R M5 (e + 2) j = none := fun j => by rw [(hn5 _ _ (lin_s2 hl4)).2.2.2 id]; exact hnil2 j
      refine wa_aload_n dX4_readLine_68 rfl rfl ?_
      refine wa_aload_n dX4_readLine_69 rfl rfl ?_
      refine wa_callV (kc' := 5) (ks' := 15) (q := (RX4, TX4, 6)) (As := [.ref e]) dX4_readLine_70 lk_X4_51 rfl rfl hx5.2.1.1 rfl rfl (Nat.le_of_ble_eq_true rfl) (by decide) (by decide) (kr_readTests hx5 hl5 hnil5 (fun M6 hn6 hx6 ht6 => ?_))
      refine s73 e M6 _ (nw_trf (nw_tr hn4 hn5) hn6 (fun _ _ h _ => h) (fun z u hz hu => by subst hz; exact absurd hu (hf1 u))) hx6 (lin_nw hn6 (fun h => by omega) hl5) hf0 hf1 hf2 (fun j => by rw [(hn6 _ _ (lin_s2 hl5)).2.2.2 (fun h => by omega)]; exact hnil52 j) ?_
      rcases hor with ⟨f, g1, g2⟩ | ⟨i, g1, g2, g3, g4, g5, g6, g7⟩
      · rw [g1] at e5
        cases e5
      · rw [g2] at e5
        cases e5
        have hx9 : (if K (i + 2) = 5 then (ps_run (ps_test K V) K 6) 5 0 (i + 3) else .inr ([], i + 2)) = (ps_run (ps_test K V) K 6) 5 0 (i + 3) := if_pos hk5
        have hpl := ps_line_t g3 g4 g5 g6 hx9
        cases h8 : (ps_run (ps_test K V) K 6) 5 0 (i + 3) with
        | inl z =>
          rw [h8] at hpl
          refine Or.inl ⟨(z.1, L z.2), ?_, ?_⟩
          · show rd_rr L ((ps_run (ps_test K V) K 6) 5 0 (i + 3)) = _
            rw [h8]; rfl
          · rw [g1]
            show rd_lr L (ps_line K V a i) = _
            rw [hpl]; rfl
        | inr z =>
          rw [h8] at hpl
          refine Or.inr ⟨i, z.2, z.1, g1, ?_, hpl, ?_, ht6 (i + 3) z.1 z.2 rfl h8⟩
          · show rd_rr L ((ps_run (ps_test K V) K 6) 5 0 (i + 3)) = _
            rw [h8]; rfl
          · rw [(hn6 _ _ hl5.1).2.1 (fun h => by have h9 := hl5.1; rw [h, hx5.2.1.1] at h9; cases h9), (hn5 _ _ hl4.1).2.1 (fun h => by have h9 := hl4.1; rw [h, hx4.2.1.1] at h9; cases h9)]
            exact g7
    · refine wa_if_eq (tgt := 73) dX4_readLine_65 (by decide) (fun _ => ?_) (fun h9 => absurd h9 (by decide))
      refine wa_kc (kc' := 5) (ks' := 15) (by decide) (by decide) (s73 e M4 _ hn4 hx4 hl4 hf0 hf1 hf2 hnil2 ?_)
      rcases hor with ⟨f, g1, g2⟩ | ⟨i, g1, g2, g3, g4, g5, g6, g7⟩
      · exact Or.inl ⟨f, g1, g2⟩
      · exact Or.inr ⟨i, i + 2, [], g1, g2, ps_line_t g3 g4 g5 g6 (if_neg (hk5 _ g2)), g7, tsl_nil hnil1⟩
  have s47 : ∀ (M2 : mm_M) (σ2 : (Int32 × Int32) ⊕ Nat), nw_ (fun z => z = r) (fun _ => False) M M2 → rx_ m K L V M2 r t σ2 → (lf_ K L V a σ σ2 ∨ ∃ i, σ = .inr i ∧ σ2 = .inr (i + 1) ∧ K i = 4 ∧ ¬ a = 12 ∧ (K (i + 1) = 2 → ¬ 9 < V (i + 1))) → wa_ 0 G jX4_readLine (d + 4) 13 41 Q 13 41 M2 47 [some (.ref r), some (.int (nI a)), none] [] := by
    intro M2 σ2 hn2 hx2 hor
    refine wa_new (n := 3) (q := (RX1, TX1, 3)) (ci := 1) dX4_readLine_47 rfl rfl wc_X4_35 wt_X1 wn_X1 (fun hext3 => ?_)
    have hx3 := rx_new hext3 hx2
    have hz3 := mm_sh_z M2 (.inl 1)
    refine wa_dup dX4_readLine_50 rfl ?_
    refine wa_aload_n dX4_readLine_51 rfl rfl ?_
    refine wa_iconst (v := 2) dX4_readLine_52 (by decide) ?_
    refine wa_callV  (q := (RX4, TX4, 6)) (As := [.int 2]) dX4_readLine_53 lk_X4_45 rfl rfl hx3.2.1.1 rfl rfl (Nat.le_of_ble_eq_true rfl) (Nat.le_of_eq (Nat.zero_add _)) (Nat.le_of_eq (Nat.zero_add _)) (kr_needZ 2 hx3 (fun _ _ _ => by decide) (fun v M4 ez4 hn4 hx4 hv4 => ?_))
    have hsa := nw_sh hn4 hz3
    have hz4 : mm_z M4 = mm_z M2 + 1 := ez4
    refine wa_callI (kc' := 10) (ks' := 30) (As := [.int v]) dX4_readLine_56 lk_X4_49 rfl rfl rfl (Nat.le_of_ble_eq_true rfl) (by decide) (by decide) (k_X1_init v hsa hz4 (fun M5 hn5 hl5 hi5 hnil1 hnil2 hf1 hf2 => ?_))
    have hn24 := nw_tr (nw_new hn2 hext3) hn4
    have hfr := nw_fresh hn2 hext3
    have hn25 := nw_trf hn24 hn5 (fun z u hz hu => by subst hz; exact absurd hu (hfr u)) (fun z u hz hu => by subst hz; exact absurd hu (hfr u))
    have hx5 := rx_e hn5 hsa (by decide) (by decide) hx4
    refine wa_astore_n dX4_readLine_59 (by decide) rfl rfl rfl ?_
    refine s60 (mm_z M2) M5 _ hn25 hx5 hl5 hfr (fun u hu => hf1 u (nw_sh hn24 hu)) (fun u hu => hf2 u (nw_sh hn24 hu)) hnil1 hnil2 ?_
    rcases hor with ⟨f, g1, g2⟩ | ⟨i, g1, g2, g3, g4, g5⟩
    · exact Or.inl ⟨f, by rw [g1]; rfl, g2⟩
    · by_cases h2 : K (i + 1) = 2
      · exact Or.inr ⟨i, g1, by rw [g2]; exact if_pos h2, g3, g4, h2, g5 h2, hi5.trans (hv4 _ g2)⟩
      · refine Or.inl ⟨(1, L (i + 1)), by rw [g2]; exact if_neg h2, ?_⟩
        rw [g1]
        show rd_lr L (ps_line K V a i) = _
        unfold ps_line
        rw [if_neg (fun h => h g3), if_neg g4, if_pos h2]
        rfl
  have s19 : ∀ (M1 : mm_M) (σ1 : (Int32 × Int32) ⊕ Nat), nw_ (fun z => z = r) (fun _ => False) M M1 → rx_ m K L V M1 r t σ1 → (lf_ K L V a σ σ1 ∨ ∃ i, σ = .inr i ∧ σ1 = .inr i ∧ ¬ (K i = 4 ∧ a = 12)) → wa_ 0 G jX4_readLine (d + 4) 13 41 Q 13 41 M1 19 [some (.ref r), some (.int (nI a)), none] [] := by
    intro M1 σ1 hn1 hx1 hor
    have hor2 : lf_ K L V a σ (rd_nd K L 4 σ1) ∨ ∃ i, σ = .inr i ∧ rd_nd K L 4 σ1 = .inr (i + 1) ∧ K i = 4 ∧ ¬ a = 12 := by
      rcases hor with ⟨f, g1, g2⟩ | ⟨i, g1, g2, g3⟩
      · exact Or.inl ⟨f, by rw [g1]; rfl, g2⟩
      · by_cases h4 : K i = 4
        · exact Or.inr ⟨i, g1, by rw [g2]; exact if_pos h4, h4, fun h => g3 ⟨h4, h⟩⟩
        · refine Or.inl ⟨(1, L i), by rw [g2]; exact if_neg h4, ?_⟩
          rw [g1]
          show rd_lr L (ps_line K V a i) = _
          unfold ps_line
          rw [if_pos h4]
          rfl
    refine wa_aload_n dX4_readLine_19 rfl rfl ?_
    refine wa_iconst (v := 4) dX4_readLine_20 (by decide) ?_
    refine wa_callV  (q := (RX4, TX4, 6)) (As := [.int 4]) dX4_readLine_21 lk_X4_45 rfl rfl hx1.2.1.1 rfl rfl (Nat.le_of_ble_eq_true rfl) (Nat.le_of_eq (Nat.zero_add _)) (Nat.le_of_eq (Nat.zero_add _)) (kr_need 4 hx1 (fun _ _ _ => by decide) (fun v M2 hn2 hx2 hv2 => ?_))
    refine wa_pop dX4_readLine_24 rfl ?_
    refine wa_aload_n dX4_readLine_25 rfl rfl ?_
    refine wa_getI (q := (RX4, TX4, 6)) (ci := 4) (k := 4) dX4_readLine_26 rfl (by decide) wf_X4_21 hx2.2.1.1 rfl ?_
    refine wa_iconst (v := 2) dX4_readLine_29 (by decide) ?_
    refine wa_icmp_ne (tgt := 47) dX4_readLine_30 (by decide) (fun hT30 => ?_) (fun hF30 => ?_)
    · refine s47 M2 _ (nw_tr hn1 hn2) hx2 ?_
      rcases hor2 with ⟨f, g1, g2⟩ | ⟨i, g1, g2, g3, g4⟩
      · exact Or.inl ⟨f, g1, g2⟩
      · have hv := rx_v hx2 _ g2
        refine Or.inr ⟨i, g1, g2, g3, g4, fun h2 => ?_⟩
        first
          | exact absurd (hv.2.trans h2) hT30
          | (rw [← hv.1]; exact Int32.not_lt.mpr hT39)
    · refine wa_aload_n dX4_readLine_33 rfl rfl ?_
      refine wa_getI (q := (RX4, TX4, 6)) (ci := 4) (k := 5) dX4_readLine_34 rfl (by decide) wf_X4_24 hx2.2.1.1 rfl ?_
      refine wa_bipush (v := 9) dX4_readLine_37 (by decide) ?_
      refine wa_icmp_le (tgt := 47) dX4_readLine_39 (by decide) (fun hT39 => ?_) (fun hF39 => ?_)
      · refine s47 M2 _ (nw_tr hn1 hn2) hx2 ?_
        rcases hor2 with ⟨f, g1, g2⟩ | ⟨i, g1, g2, g3, g4⟩
        · exact Or.inl ⟨f, g1, g2⟩
        · have hv := rx_v hx2 _ g2
          refine Or.inr ⟨i, g1, g2, g3, g4, fun h2 => ?_⟩
          first
            | exact absurd (hv.2.trans h2) hT30
            | (rw [← hv.1]; exact Int32.not_lt.mpr hT39)
      · refine wa_aload_n dX4_readLine_42 rfl rfl ?_
        refine wa_iconst (v := 3) dX4_readLine_43 (by decide) ?_
        refine wa_callV  (q := (RX4, TX4, 6)) (As := [.int 3]) dX4_readLine_44 lk_X4_41 rfl rfl hx2.2.1.1 rfl rfl (Nat.le_of_ble_eq_true rfl) (Nat.le_of_eq (Nat.zero_add _)) (Nat.le_of_eq (Nat.zero_add _)) (kr_blame 3 (by decide) hx2 (fun M3 hn3 hx3 => ?_))
        refine s47 M3 _ (nw_tr (nw_tr hn1 hn2) hn3) hx3 (Or.inl ?_)
        rcases hor2 with ⟨f, g1, g2⟩ | ⟨i, g1, g2, g3, g4⟩
        · exact ⟨f, by rw [g1]; rfl, g2⟩
        · have hv := rx_v hx2 _ g2
          refine ⟨(3, L (i + 1)), by rw [g2]; rfl, ?_⟩
          rw [g1]
          show rd_lr L (ps_line K V a i) = _
          unfold ps_line
          rw [if_neg (fun h => h g3), if_neg g4, if_neg (fun h => h (hv.2.symm.trans hF30)), if_pos (by rw [← hv.1]; exact Int32.not_le.mp hF39)]
          rfl
  refine wa_aload_n dX4_readLine_0 rfl rfl ?_
  refine wa_getI (q := (RX4, TX4, 6)) (ci := 4) (k := 4) dX4_readLine_1 rfl (by decide) wf_X4_21 hx.2.1.1 rfl ?_
  refine wa_iconst (v := 4) dX4_readLine_4 (by decide) ?_
  refine wa_icmp_ne (tgt := 19) dX4_readLine_5 (by decide) (fun hT5 => ?_) (fun hF5 => ?_)
  · refine s19 M _ (nw_rf _ _ _) hx ?_
    cases σ with
    | inl q => exact Or.inl ⟨q, rfl, rfl⟩
    | inr i =>
      refine Or.inr ⟨i, rfl, rfl, fun h => ?_⟩
      first
        | exact hT5 ((rx_v hx i rfl).2.trans h.1)
        | exact absurd (ni_lt (b := 12) hT11 (by omega) (by decide)) (by omega)
  · refine wa_iload_n dX4_readLine_8 rfl ?_
    refine wa_bipush (v := 12) dX4_readLine_9 (by decide) ?_
    refine wa_icmp_lt (tgt := 19) dX4_readLine_11 (by decide) (fun hT11 => ?_) (fun hF11 => ?_)
    · refine s19 M _ (nw_rf _ _ _) hx ?_
      cases σ with
      | inl q => exact Or.inl ⟨q, rfl, rfl⟩
      | inr i =>
        refine Or.inr ⟨i, rfl, rfl, fun h => ?_⟩
        first
          | exact hT5 ((rx_v hx i rfl).2.trans h.1)
          | exact absurd (ni_lt (b := 12) hT11 (by omega) (by decide)) (by omega)
    · refine wa_aload_n dX4_readLine_14 rfl rfl ?_
      refine wa_iconst (v := 4) dX4_readLine_15 (by decide) ?_
      refine wa_callV  (q := (RX4, TX4, 6)) (As := [.int 4]) dX4_readLine_16 lk_X4_41 rfl rfl hx.2.1.1 rfl rfl (Nat.le_of_ble_eq_true rfl) (Nat.le_of_eq (Nat.zero_add _)) (Nat.le_of_eq (Nat.zero_add _)) (kr_blame 4 (by decide) hx (fun M1 hn1 hx1 => ?_))
      refine s19 M1 _ hn1 hx1 (Or.inl ?_)
      have ha9 : a = 12 := by
        have := ni_nlt (b := 12) hF11 (by omega) (by decide)
        omega
      cases σ with
      | inl q => exact ⟨q, rfl, rfl⟩
      | inr i =>
        have hk := (rx_v hx i rfl).2.symm.trans hF5
        refine ⟨(4, L i), rfl, ?_⟩
        show rd_lr L (ps_line K V a i) = _
        unfold ps_line
        rw [if_neg (fun h => h hk), if_pos ha9]
        rfl
