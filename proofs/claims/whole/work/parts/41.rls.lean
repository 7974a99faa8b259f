/-! lines of the class -/
theorem kr_skipZ {G : mm_G} {d : Nat} {Q : Option Value → mm_M → Prop} {M : mm_M} {r t m : Nat} {K L V : Nat → Int32} {σ : (Int32 × Int32) ⊕ Nat} (w : Int32) (hx : rx_ m K L V M r t σ) (hw : ∀ i, σ = .inr i → K i = w → ¬ w = 0) (h1 : ∀ (i : Nat) (M' : mm_M), mm_z M' = mm_z M → σ = .inr i → K i = w → nw_ (fun z => z = r) (fun _ => False) M M' → rx_ m K L V M' r t (.inr (i + 1)) → Q (some (.int 1)) M') (h0 : (∀ i, σ = .inr i → ¬ K i = w) → Q (some (.int 0)) M) : ma_ G jX4_skip d 0 0 [.ref r, .int w] M Q := by
  obtain ⟨⟨hm3, hm0⟩, hc, hs⟩ := hx
  cases σ with
  | inl q =>
    obtain ⟨s1, s2, s3⟩ := hs
    refine k_X4_skip w 0 hc (fun e => absurd (s1.symm.trans e) s2) (fun _ => h0 (fun i e => by cases e)) (fun e => absurd (s1.symm.trans e) s2)
  | inr i =>
    obtain ⟨s1, s2, s3, s4, s5, s6⟩ := hs
    have him : K i = w → i + 1 ≤ m := by
      intro e
      have h := hw i rfl e
      have : i ≠ m := fun z => h (by rw [← e, z]; exact hm0)
      omega
    refine k_X4_skip w (i + 1) hc (fun e1 e2 => ⟨s4, by have := him (s5.symm.trans e2); omega⟩) (fun h => h0 (fun j e => ?_)) (fun e1 e2 => ?_)
    · cases e
      intro e
      exact h ⟨s2, s5.trans e⟩
    · have hk := s5.symm.trans e2
      have hn : nw_ (fun z => z = r) (fun _ => False) M (rk_ M r K L V (i + 1)) := nw_I (nw_I (nw_I (nw_I (nw_rf _ _ _) (Or.inl rfl)) (Or.inl rfl)) (Or.inl rfl)) (Or.inl rfl)
      have hr := rc_r hc
      refine h1 i _ rfl rfl hk hn ⟨⟨hm3, hm0⟩, rc_nw hn ⟨Ne.symm hr.1, Ne.symm hr.2.1, Ne.symm hr.2.2.1⟩ ⟨id, id⟩ hc, him hk, ?_, ?_, ?_, ?_, ?_⟩
      · unfold rk_; simp [mm_I_sI]; exact s2
      · unfold rk_; simp [mm_I_sI]
      · unfold rk_; simp [mm_I_sI]
      · unfold rk_; simp [mm_I_sI]
      · unfold rk_; simp [mm_I_sI]
theorem kr_blameZ {G : mm_G} {d : Nat} {Q : Option Value → mm_M → Prop} {M : mm_M} {r t m : Nat} {K L V : Nat → Int32} {σ : (Int32 × Int32) ⊕ Nat} (c : Int32) (hc0 : ¬ c = 0) (hx : rx_ m K L V M r t σ) (hQ : ∀ (M' : mm_M), mm_z M' = mm_z M → nw_ (fun z => z = r) (fun _ => False) M M' → rx_ m K L V M' r t (rd_bl L c σ) → Q none M') : ma_ G jX4_blame d 0 0 [.ref r, .int c] M Q := by
  obtain ⟨hm, hc, hs⟩ := hx
  cases σ with
  | inl q =>
    obtain ⟨s1, s2, s3⟩ := hs
    exact k_X4_blame c hc (fun _ => hQ M rfl (nw_rf _ _ _) ⟨hm, hc, s1, s2, s3⟩) (fun e => absurd (s1.symm.trans e) s2)
  | inr i =>
    obtain ⟨s1, s2, s3, s4, s5, s6⟩ := hs
    have hn : nw_ (fun z => z = r) (fun _ => False) M (mm_sI M r 0 c) := nw_I (nw_rf _ _ _) (Or.inl rfl)
    have hr := rc_r hc
    exact k_X4_blame c hc (fun e => absurd s2 e) (fun _ => hQ _ rfl hn ⟨hm, rc_nw hn ⟨Ne.symm hr.1, Ne.symm hr.2.1, Ne.symm hr.2.2.1⟩ ⟨id, id⟩ hc, mI_eq _ _ _ _, hc0, (mI_ne _ _ _ _ _ (by decide)).trans s3⟩)

theorem kr_needZ {G : mm_G} {d : Nat} {Q : Option Value → mm_M → Prop} {M : mm_M} {r t m : Nat} {K L V : Nat → Int32} {σ : (Int32 × Int32) ⊕ Nat} (w : Int32) (hx : rx_ m K L V M r t σ) (hw : ∀ i, σ = .inr i → K i = w → ¬ w = 0) (hQ : ∀ (v : Int32) (M' : mm_M), mm_z M' = mm_z M → nw_ (fun z => z = r) (fun _ => False) M M' → rx_ m K L V M' r t (rd_nd K L w σ) → (∀ i, σ = .inr i → v = V i) → Q (some (.int v)) M') : ma_ G jX4_need (d + 1) 0 0 [.ref r, .int w] M Q := by
  refine ma_of [some (.ref r), some (.int w), none] (by decide) rfl (Nat.le_of_ble_eq_true rfl) ?_
  refine wa_aload_n dX4_need_0 rfl rfl ?_
  refine wa_getI (q := (RX4, TX4, 6)) (ci := 4) (k := 5) dX4_need_1 rfl (by decide) wf_X4_24 hx.2.1.1 rfl ?_
  refine wa_istore_n dX4_need_4 (by decide) rfl rfl ?_
  refine wa_aload_n dX4_need_5 rfl rfl ?_
  refine wa_iload_n dX4_need_6 rfl ?_
  refine wa_callV  (q := (RX4, TX4, 6)) (As := [.int w]) dX4_need_7 lk_X4_31 rfl rfl hx.2.1.1 rfl rfl (Nat.le_of_ble_eq_true rfl) (Nat.le_of_eq (Nat.zero_add _)) (Nat.le_of_eq (Nat.zero_add _)) (kr_skipZ w hx hw (fun i1 M1 ez1 e1 hk1 hn1 hx1 => ?_) (fun hk1 => ?_))
  · refine wa_if_ne (tgt := 18) dX4_need_10 (by decide) (fun _ => ?_) (fun h9 => absurd h9 (by decide))
    refine wa_iload_n dX4_need_18 rfl ?_
    exact wa_iret dX4_need_19 rfl (by
      first
      | exact hQ _ M1 ez1 hn1 (by subst e1; rw [show rd_nd K L w (.inr i1) = .inr (i1 + 1) from if_pos hk1]; exact hx1) (fun i e => (rx_v hx i e).1)
      | exact hQ _ M2 ez2 hn2 (by
          rw [show rd_nd K L w σ = rd_bl L 1 σ from by
            cases σ with
            | inl q => rfl
            | inr i => exact if_neg (hk1 i rfl)]
          exact hx2) (fun i e => (rx_v hx i e).1))
  · refine wa_if_ne (tgt := 18) dX4_need_10 (by decide) (fun h9 => absurd h9 (by decide)) (fun _ => ?_)
    refine wa_aload_n dX4_need_13 rfl rfl ?_
    refine wa_iconst (v := 1) dX4_need_14 (by decide) ?_
    refine wa_callV  (q := (RX4, TX4, 6)) (As := [.int 1]) dX4_need_15 lk_X4_41 rfl rfl hx.2.1.1 rfl rfl (Nat.le_of_ble_eq_true rfl) (Nat.le_of_eq (Nat.zero_add _)) (Nat.le_of_eq (Nat.zero_add _)) (kr_blameZ 1 (by decide) hx (fun M2 ez2 hn2 hx2 => ?_))
    refine wa_iload_n dX4_need_18 rfl ?_
    exact wa_iret dX4_need_19 rfl (by
      first
      | exact hQ _ M1 ez1 hn1 (by subst e1; rw [show rd_nd K L w (.inr i1) = .inr (i1 + 1) from if_pos hk1]; exact hx1) (fun i e => (rx_v hx i e).1)
      | exact hQ _ M2 ez2 hn2 (by
          rw [show rd_nd K L w σ = rd_bl L 1 σ from by
            cases σ with
            | inl q => rfl
            | inr i => exact if_neg (hk1 i rfl)]
          exact hx2) (fun i e => (rx_v hx i e).1))

/-- a line is made -/
def li_ (M : mm_M) (e : Nat) (k : Int32) : mm_M := mm_sI (mm_sR (mm_new (mm_sR (mm_new M (.inr (9, 4))) e 1 (some (mm_z M))) (.inr (8, 4))) e 2 (some (mm_z M + 1))) e 0 k
theorem lin_nw {X Y : Nat → Prop} {M M' : mm_M} {e : Nat} (h : nw_ X Y M M') (hY : ¬ Y e) (c : lin_ M e) : lin_ M' e := by
  obtain ⟨k1, k2, k3, k4, k5⟩ := c
  have q := (h _ _ k1).2.2.2 hY
  exact ⟨(h _ _ k1).1, by rw [q]; exact k2, (h _ _ k3).1, by rw [q]; exact k4, (h _ _ k5).1⟩
theorem li_ok {M : mm_M} {e : Nat} {k : Int32} (he : mm_sh M e = some (.inl 1)) (hz : mm_z M = e + 1) (hx1 : mm_ext M (.inr (9, 4))) (hx2 : mm_ext (mm_sR (mm_new M (.inr (9, 4))) e 1 (some (mm_z M))) (.inr (8, 4))) :
    nw_ (fun z => z = e) (fun z => z = e) M (li_ M e k) ∧ lin_ (li_ M e k) e ∧ mm_I (li_ M e k) e 0 = k ∧ (∀ j, mm_R (li_ M e k) (e + 1) j = none) ∧ (∀ j, mm_R (li_ M e k) (e + 2) j = none) ∧ (∀ u, ¬ mm_sh M (e + 1) = some u) ∧ ∀ u, ¬ mm_sh M (e + 2) = some u := by
  have hn1 : nw_ (fun z => z = e) (fun z => z = e) M (mm_sR (mm_new M (.inr (9, 4))) e 1 (some (mm_z M))) := nw_R (nw_new (nw_rf _ _ _) hx1) (Or.inl rfl)
  have hz2 : mm_z (mm_sR (mm_new M (.inr (9, 4))) e 1 (some (mm_z M))) = e + 2 := by show mm_z M + 1 = e + 2; omega
  have hn2 : nw_ (fun z => z = e) (fun z => z = e) M (mm_new (mm_sR (mm_new M (.inr (9, 4))) e 1 (some (mm_z M))) (.inr (8, 4))) := nw_new hn1 hx2
  have f1 := nw_fresh (X := fun _ => False) (Y := fun _ => False) (nw_rf _ _ M) hx1
  have f2 := nw_fresh hn1 hx2
  have s1 : mm_sh (mm_sR (mm_new M (.inr (9, 4))) e 1 (some (mm_z M))) (e + 1) = some (.inr (9, 4)) := by rw [← hz]; exact mm_sh_z M _
  have s2 := hx2 _ _ s1
  have s3 := mm_sh_z (mm_sR (mm_new M (.inr (9, 4))) e 1 (some (mm_z M))) (.inr (8, 4))
  rw [hz2] at s3 f2
  rw [hz] at f1
  refine ⟨nw_I (nw_R hn2 (Or.inl rfl)) (Or.inl rfl), ⟨(hn2 _ _ he).1, ?_, s2.1, ?_, s3⟩, mI_eq _ _ _ _, fun j => ?_, fun j => ?_, f1, f2⟩
  · show mm_R (mm_sR (mm_new (mm_sR (mm_new M (.inr (9, 4))) e 1 (some (mm_z M))) (.inr (8, 4))) e 2 (some (mm_z M + 1))) e 1 = _
    rw [mR_ne _ _ _ _ _ (by decide), mm_new_Ro (by rw [hz2]; omega), mR_eq, hz]
  · show mm_R (mm_sR (mm_new (mm_sR (mm_new M (.inr (9, 4))) e 1 (some (mm_z M))) (.inr (8, 4))) e 2 (some (mm_z M + 1))) e 2 = _
    rw [mR_eq, hz]
  · show mm_R (mm_sR (mm_new (mm_sR (mm_new M (.inr (9, 4))) e 1 (some (mm_z M))) (.inr (8, 4))) e 2 (some (mm_z M + 1))) (e + 1) j = _
    rw [mR_na _ _ _ _ _ _ (by omega), mm_new_Ro (by rw [hz2]; omega), mR_na _ _ _ _ _ _ (by omega), ← hz]
    exact mm_new_R M _ j
  · show mm_R (mm_sR (mm_new (mm_sR (mm_new M (.inr (9, 4))) e 1 (some (mm_z M))) (.inr (8, 4))) e 2 (some (mm_z M + 1))) (e + 2) j = _
    have h := mm_new_R (mm_sR (mm_new M (.inr (9, 4))) e 1 (some (mm_z M))) (.inr (8, 4)) j
    rw [hz2] at h
    rw [mR_na _ _ _ _ _ _ (by omega)]
    exact h

theorem k_X1_init {G : mm_G} {d : Nat} {Q : Option Value → mm_M → Prop} {M : mm_M} {e : Nat} (k : Int32) (he : mm_sh M e = some (.inl 1)) (hz : mm_z M = e + 1) (hQ : ∀ M' : mm_M, nw_ (fun z => z = e) (fun z => z = e) M M' → lin_ M' e → mm_I M' e 0 = k → (∀ j, mm_R M' (e + 1) j = none) → (∀ j, mm_R M' (e + 2) j = none) → (∀ u, ¬ mm_sh M (e + 1) = some u) → (∀ u, ¬ mm_sh M (e + 2) = some u) → Q none M') : ma_ G jX1_init (d + 1) 2 8 [.ref e, .int k] M Q := by
  refine ma_of [some (.ref e), some (.int k)] (by decide) rfl (Nat.le_of_ble_eq_true rfl) ?_
  refine wa_aload_n dX1_init_0 rfl rfl ?_
  refine wa_obj dX1_init_1 lo_X1_3 wi_obj wk_obj (Nat.le_of_ble_eq_true rfl) ?_
  refine wa_aload_n dX1_init_4 rfl rfl ?_
  refine wa_iconst (v := 4) dX1_init_5 (by decide) ?_
  refine wa_anew (k := 9) (n := 4) (CC := "ConsulDesk$Test") dX1_init_6 (by decide) rfl wc_X1_9 (by decide) (by decide) (by decide) (by decide) (fun hext1 => ?_)
  have he1 := (hext1 _ _ he).1
  refine wa_putF (q := (RX1, TX1, 3)) (ci := 1) (k := 1) dX1_init_9 rfl (by decide) wf_X1_11 rfl rfl (by decide) rfl he1 rfl ?_
  refine wa_aload_n dX1_init_12 rfl rfl ?_
  refine wa_iconst (v := 4) dX1_init_13 (by decide) ?_
  refine wa_anew (k := 8) (n := 4) (CC := "ConsulDesk$Term") dX1_init_14 (by decide) rfl wc_X1_17 (by decide) (by decide) (by decide) (by decide) (fun hext2 => ?_)
  have he2 := (hext2 _ _ he1).1
  refine wa_putF (q := (RX1, TX1, 3)) (ci := 1) (k := 2) dX1_init_17 rfl (by decide) wf_X1_19 rfl rfl (by decide) rfl he2 rfl ?_
  refine wa_aload_n dX1_init_20 rfl rfl ?_
  refine wa_iload_n dX1_init_21 rfl ?_
  refine wa_putF (q := (RX1, TX1, 3)) (ci := 1) (k := 0) dX1_init_22 rfl (by decide) wf_X1_23 rfl rfl (by decide) rfl he2 rfl ?_
  exact wa_vret dX1_init_25 rfl (by
      obtain ⟨g1, g2, g3, g4, g5, g6, g7⟩ := li_ok (k := k) he hz hext1 hext2
      exact hQ _ g1 g2 g3 g4 g5 g6 g7)

def tsl_ (M : mm_M) (a ci : Nat) (ts : List ps_T) : Prop := ∀ k, k < 4 → (∀ q, ts[k]? = some q → ∃ u, mm_R M a k = some u ∧ mm_sh M u = some (.inl ci) ∧ tf_ M u q) ∧ (ts[k]? = none → mm_R M a k = none)
theorem tsl_nw {X Y : Nat → Prop} {M M' : mm_M} {a ci : Nat} {ts : List ps_T} {s : mm_S} (h : nw_ X Y M M') (ha : mm_sh M a = some s) (hY : ¬ Y a) (hX : ∀ u, X u → ¬ mm_sh M u = some (.inl ci)) (c : tsl_ M a ci ts) : tsl_ M' a ci ts := by
  intro k hk
  obtain ⟨c1, c2⟩ := c k hk
  have e := (h _ _ ha).2.2.2 hY
  refine ⟨fun q hq => ?_, fun hn => by rw [e]; exact c2 hn⟩
  obtain ⟨u, u1, u2, u3⟩ := c1 q hq
  have e2 := (h _ _ u2).2.1 (fun z => hX u z u2)
  refine ⟨u, by rw [e]; exact u1, (h _ _ u2).1, ?_⟩
  unfold tf_ at u3 ⊢
  rw [e2]
  exact u3
theorem tsl_nil {M : mm_M} {a ci : Nat} (h : ∀ j, mm_R M a j = none) : tsl_ M a ci [] := fun k _ => ⟨fun q e => (by cases e), fun _ => h k⟩
theorem tsl_snoc {M : mm_M} {a ci u : Nat} {ts : List ps_T} {q : ps_T} (c : tsl_ M a ci ts) (hl : ts.length < 4) (hu : mm_sh M u = some (.inl ci)) (hq : tf_ M u q) : tsl_ (mm_sR M a ts.length (some u)) a ci (ts ++ [q]) := by
  intro k hk
  by_cases h : k = ts.length
  · subst h
    refine ⟨fun q' e => ⟨u, mR_eq _ _ _ _, hu, ?_⟩, fun e => ?_⟩
    · rw [List.getElem?_append_right (Nat.le_refl _), Nat.sub_self] at e
      cases e
      exact hq
    · rw [List.getElem?_append_right (Nat.le_refl _), Nat.sub_self] at e
      cases e
  · obtain ⟨c1, c2⟩ := c k hk
    rw [mR_ne _ _ _ _ _ h]
    refine ⟨fun q' e => ?_, fun e => c2 ?_⟩
    · rcases rr_snoc e with e1 | ⟨e1, -⟩
      · exact c1 q' e1
      · exact absurd e1 h
    · rw [List.getElem?_eq_none_iff] at e ⊢
      rw [List.length_append] at e
      simp only [List.length_cons, List.length_nil] at e
      omega
def rd_rr (L : Nat → Int32) : (Int32 × Nat) ⊕ (List ps_T × Nat) → (Int32 × Int32) ⊕ Nat
  | .inl q => .inl (q.1, L q.2)
  | .inr q => .inr q.2
def rd_run (L : Nat → Int32) (g : Nat → (Int32 × Nat) ⊕ (List ps_T × Nat)) : (Int32 × Int32) ⊕ Nat → (Int32 × Int32) ⊕ Nat
  | .inl q => .inl q
  | .inr i => rd_rr L (g i)
def rd_cat (ds : List ps_T) : (Int32 × Nat) ⊕ (List ps_T × Nat) → (Int32 × Nat) ⊕ (List ps_T × Nat)
  | .inl q => .inl q
  | .inr q => .inr (ds ++ q.1, q.2)
theorem rd_cat_cat (ds es : List ps_T) (x : (Int32 × Nat) ⊕ (List ps_T × Nat)) : rd_cat ds (rd_cat es x) = rd_cat (ds ++ es) x := by
  cases x with
  | inl q => rfl
  | inr q => show Sum.inr (ds ++ (es ++ q.1), q.2) = Sum.inr (ds ++ es ++ q.1, q.2); rw [List.append_assoc]
theorem rd_cat_nil (x : (Int32 × Nat) ⊕ (List ps_T × Nat)) : rd_cat [] x = x := by
  cases x with
  | inl q => rfl
  | inr q => rfl
theorem ps_run_i {f : Nat → Nat → (Int32 × Nat) ⊕ (ps_T × Nat)} {K : Nat → Int32} {s : Int32} {r c i : Nat} {q : Int32 × Nat} (h : f c i = .inl q) : ps_run f K s (r + 1) c i = .inl q := by simp only [ps_run, h]
theorem ps_run_r {f : Nat → Nat → (Int32 × Nat) ⊕ (ps_T × Nat)} {K : Nat → Int32} {s : Int32} {r c i j : Nat} {t : ps_T} (h : f c i = .inr (t, j)) : ps_run f K s (r + 1) c i = if K j = s then rd_cat [t] (ps_run f K s r (c + 1) (j + 1)) else .inr ([t], j) := by
  simp only [ps_run, h]
  split
  · cases ps_run f K s r (c + 1) (j + 1) with
    | inl q => rfl
    | inr q => rfl
  · rfl
theorem ps_test_4 {K V : Nat → Int32} {i j : Nat} {q : ps_T} (h : ps_test K V 4 i = .inr (q, j)) : False := by
  unfold ps_test at h
  split at h
  · cases h
  · rw [if_pos rfl] at h; cases h
theorem ps_term_4 {K V : Nat → Int32} {i j : Nat} {q : ps_T} (h : ps_term K V 4 i = .inr (q, j)) : False := by
  unfold ps_term at h
  split at h
  · rw [if_pos rfl] at h; cases h
  · split at h
    · cases h
    · rw [if_pos rfl] at h; cases h
/-- how far a run is: the fault is known, or c of them are there -/
def run_H (L : Nat → Int32) (g : Nat → Nat → Nat → (Int32 × Nat) ⊕ (List ps_T × Nat)) (M : mm_M) (a ci r c : Nat) (σ σ1 : (Int32 × Int32) ⊕ Nat) : Prop := (∃ f, σ1 = .inl f ∧ rd_run L (g 5 0) σ = .inl f) ∨ ∃ i j ds, σ = .inr i ∧ σ1 = .inr j ∧ g 5 0 i = rd_cat ds (g r c j) ∧ ds.length = c ∧ tsl_ M a ci ds

theorem kr_readTests {G : mm_G} {d : Nat} {Q : Option Value → mm_M → Prop} {M : mm_M} {r t m : Nat} {K L V : Nat → Int32} {σ : (Int32 × Int32) ⊕ Nat} {e : Nat} (hx : rx_ m K L V M r t σ) (hl : lin_ M e) (hnil : ∀ j, mm_R M (e + 1) j = none) (hQ : ∀ (M' : mm_M), nw_ (fun z => z = r) (fun z => z = e + 1) M M' → rx_ m K L V M' r t (rd_run L ((ps_run (ps_test K V) K 6) 5 0) σ) → (∀ i ts j, σ = .inr i → (ps_run (ps_test K V) K 6) 5 0 i = .inr (ts, j) → tsl_ M' (e + 1) 8 ts) → Q none M') : ma_ G jX4_readTests (d + 3) 5 15 [.ref r, .ref e] M Q := by
  refine ma_of [some (.ref r), some (.ref e), none, none] (by decide) rfl (Nat.le_of_ble_eq_true rfl) ?_
  have lp : ∀ (rr c : Nat) (M1 : mm_M) (σ1 : (Int32 × Int32) ⊕ Nat), rr + c = 5 → c ≤ 4 → nw_ (fun z => z = r) (fun z => z = e + 1) M M1 → rx_ m K L V M1 r t σ1 → lin_ M1 e → run_H L (ps_run (ps_test K V) K 6) M1 (e + 1) 8 rr c σ σ1 → wa_ 0 G jX4_readTests (d + 3) 5 15 Q rr (3 * rr) M1 2 [some (.ref r), some (.ref e), some (.int (nI c)), none] [] := by
    intro rr
    induction rr with
    | zero => intro c M1 σ1 h1 h2; exact absurd h1 (by omega)
    | succ rr ih =>
      intro c M1 σ1 hrc hc4 hn1 hx1 hl1 hH
      have s29 : ∀ (u : Nat) (M3 : mm_M), nw_ (fun z => z = r) (fun z => z = e + 1) M M3 → rx_ m K L V M3 r t (rd_ts K L V c σ1) → lin_ M3 e → ((∃ f, rd_ts K L V c σ1 = .inl f ∧ rd_run L ((ps_run (ps_test K V) K 6) 5 0) σ = .inl f) ∨ ∃ i j j2 ds q, σ = .inr i ∧ σ1 = .inr j ∧ ps_test K V c j = .inr (q, j2) ∧ (ps_run (ps_test K V) K 6) 5 0 i = rd_cat ds ((ps_run (ps_test K V) K 6) (rr + 1) c j) ∧ ds.length = c ∧ c < 4 ∧ tsl_ M3 (e + 1) 8 (ds ++ [q])) → wa_ 0 G jX4_readTests (d + 3) 5 15 Q rr (3 * rr) M3 29 [some (.ref r), some (.ref e), some (.int (nI c)), some (.ref u)] [] := by
        intro u M3 hn3 hx3 hl3 hor
        refine wa_aload_n dX4_readTests_29 rfl rfl ?_
        refine wa_bipush (v := 6) dX4_readTests_30 (by decide) ?_
        refine wa_callV  (q := (RX4, TX4, 6)) (As := [.int 6]) dX4_readTests_32 lk_X4_31 rfl rfl hx3.2.1.1 rfl rfl (Nat.le_of_ble_eq_true rfl) (Nat.le_of_eq (Nat.zero_add _)) (Nat.le_of_eq (Nat.zero_add _)) (kr_skip 6 hx3 (fun _ _ _ => by decide) (fun i4 M4 e4 hk4 hn4 hx4 => ?_) (fun hk4 => ?_))
        · refine wa_if_ne (tgt := 41) dX4_readTests_35 (by decide) (fun _ => ?_) (fun h9 => absurd h9 (by decide))
          refine wa_iinc (v := nI (c + 1)) dX4_readTests_41 rfl (ni_i1 c) (by decide) rfl rfl ?_
          refine wa_goto (tgt := 2) dX4_readTests_44 (by decide) ?_
          rcases hor with ⟨f, g1, g2⟩ | ⟨i, j, j2, ds, q, g1, g2, g3, g4, g5, g6, g7⟩
          · rw [g1] at e4
            cases e4
          · have e8 : rd_ts K L V c σ1 = .inr j2 := by rw [g2]; show rd_res L (ps_test K V c j) = _; rw [g3]; rfl
            rw [e8] at e4
            cases e4
            refine wa_set0 3 (ih (c + 1) M4 (.inr (i4 + 1)) (by omega) (by omega) (nw_tr hn3 (nw_mono hn4 (fun _ h => h) (fun _ h => h.elim))) hx4 (lin_nw hn4 id hl3) (Or.inr ⟨i, i4 + 1, ds ++ [q], g1, rfl, ?_, by rw [List.length_append, g5]; rfl, ?_⟩))
            · rw [g4, ps_run_r g3, if_pos hk4, rd_cat_cat]
            · exact tsl_nw hn4 (lin_s1 hl3) id (fun z hz h9 => by rw [hz, hx3.2.1.1] at h9; cases h9) g7
        · refine wa_if_ne (tgt := 41) dX4_readTests_35 (by decide) (fun h9 => absurd h9 (by decide)) (fun _ => ?_)
          refine wa_goto (tgt := 47) dX4_readTests_38 (by decide) ?_
          exact wa_vret dX4_readTests_47 rfl (by
          refine hQ M3 hn3 ?_ (fun i ts j e1 e2 => ?_)
          · rcases hor with ⟨f, e1, e2⟩ | ⟨i, j, j2, ds, q, e1, e2, e3, e4, e5, e6, e7⟩
            · rw [e2, ← e1]; exact hx3
            · have e8 : rd_ts K L V c σ1 = .inr j2 := by rw [e2]; show rd_res L (ps_test K V c j) = _; rw [e3]; rfl
              have hk5 := hk4 j2 e8
              rw [e8] at hx3
              rw [e1]
              show rx_ m K L V M3 r t (rd_rr L ((ps_run (ps_test K V) K 6) 5 0 i))
              rw [e4, ps_run_r e3, if_neg hk5]
              exact hx3
          · rcases hor with ⟨f, f1, f2⟩ | ⟨i', j', j2, ds, q, f1, f2, f3, f4, f5, f6, f7⟩
            · rw [e1] at f2
              have f3 : rd_run L ((ps_run (ps_test K V) K 6) 5 0) (.inr i) = .inr j := by show rd_rr L _ = _; rw [e2]; rfl
              rw [f3] at f2
              cases f2
            · rw [f1] at e1
              cases e1
              have e8 : rd_ts K L V c σ1 = .inr j2 := by rw [f2]; show rd_res L (ps_test K V c j') = _; rw [f3]; rfl
              have hk5 := hk4 j2 e8
              rw [f4, ps_run_r f3, if_neg hk5] at e2
              cases e2
              exact f7)
      refine wa_iload_n dX4_readTests_2 rfl ?_
      refine wa_iconst (v := 4) dX4_readTests_3 (by decide) ?_
      refine wa_icmp_gt (tgt := 47) dX4_readTests_4 (by decide) (fun hT4 => absurd hT4 (fun h => absurd ((nI_ltI (a := 4) (by decide) (by omega)).mp h) (by omega))) (fun hF4 => ?_)
      refine wa_aload_n dX4_readTests_7 rfl rfl ?_
      refine wa_iload_n dX4_readTests_8 rfl ?_
      refine wa_callV (kc' := rr) (ks' := 3 * rr) (q := (RX4, TX4, 6)) (As := [.int (nI c)]) dX4_readTests_9 lk_X4_58 rfl rfl hx1.2.1.1 rfl rfl (Nat.le_of_ble_eq_true rfl) (by omega) (by omega) (kr_readTest c hx1 hc4 (fun u M2 hn2 hx2 hfr hsu htf => ?_))
      have hl2 := lin_nw hn2 id hl1
      have hn12 := nw_tr hn1 (nw_mono hn2 (fun _ h => h) (fun _ h => h.elim : ∀ a, (fun _ : Nat => False) a → a = e + 1))
      refine wa_astore_n dX4_readTests_12 (by decide) rfl rfl rfl ?_
      refine wa_iload_n dX4_readTests_13 rfl ?_
      refine wa_aload_n dX4_readTests_14 rfl rfl ?_
      refine wa_getR (q := (RX1, TX1, 3)) (ci := 1) (k := 1) dX4_readTests_15 rfl (by decide) wf_X4_62 hl2.1 rfl (lin_r1 hl2) ?_
      refine wa_alen dX4_readTests_18 (lin_s1 hl2) ?_
      refine wa_icmp_ge (tgt := 29) dX4_readTests_19 (by decide) (fun hT19 => ?_) (fun hF19 => ?_)
      · have c4 : c = 4 := by
          have := ni_le (a := 4) hT19 (by decide) (by omega)
          omega
        subst c4
        refine s29 u M2 hn12 hx2 hl2 ?_
        rcases hH with ⟨f, e1, e2⟩ | ⟨i, j, ds, e1, e2, e3, e4, e5⟩
        · exact Or.inl ⟨f, by rw [e1]; rfl, e2⟩
        · cases e6 : ps_test K V 4 j with
          | inl q =>
            refine Or.inl ⟨(q.1, L q.2), by rw [e2]; show rd_res L (ps_test K V 4 j) = _; rw [e6]; rfl, ?_⟩
            rw [e1]
            show rd_rr L _ = _
            rw [e3, ps_run_i e6]
            rfl
          | inr qj => exact absurd (ps_test_4 e6) id
      · refine wa_aload_n dX4_readTests_22 rfl rfl ?_
        refine wa_getR (q := (RX1, TX1, 3)) (ci := 1) (k := 1) dX4_readTests_23 rfl (by decide) wf_X4_62 hl2.1 rfl (lin_r1 hl2) ?_
        refine wa_iload_n dX4_readTests_26 rfl ?_
        refine wa_aload_n dX4_readTests_27 rfl rfl ?_
        refine wa_aastN (q := (RX8, TX8, 3)) dX4_readTests_28 (lin_s1 hl2) (by decide) (by decide) hsu rfl rfl (ni_nle (a := 4) hF19 (by decide) (by omega)) (by decide) ?_
        have c4 : c < 4 := ni_nle (a := 4) hF19 (by decide) (by omega)
        have hYr : ¬ r = e + 1 := fun e9 => by have h9 := hx2.2.1.1; rw [e9, lin_s1 hl2] at h9; cases h9
        have hYt : ¬ t = e + 1 := fun e9 => by have h9 := hx2.2.1.2.2.1.1; rw [e9, lin_s1 hl2] at h9; cases h9
        have hn3 : nw_ (fun z => z = r) (fun z => z = e + 1) M2 (mm_sR M2 (e + 1) c (some u)) := nw_R (nw_rf _ _ _) (Or.inl rfl)
        refine s29 u _ (nw_tr hn12 hn3) (rx_nw (X := fun _ => False) (Y := fun z => z = e + 1) (nw_R (nw_rf _ _ _) (Or.inl rfl)) ⟨id, id, id, id⟩ ⟨hYr, hYt⟩ hx2) (lin_nw hn3 (fun h => by omega) hl2) ?_
        rcases hH with ⟨f, e1, e2⟩ | ⟨i, j, ds, e1, e2, e3, e4, e5⟩
        · exact Or.inl ⟨f, by rw [e1]; rfl, e2⟩
        · cases e6 : ps_test K V c j with
          | inl q =>
            refine Or.inl ⟨(q.1, L q.2), by rw [e2]; show rd_res L (ps_test K V c j) = _; rw [e6]; rfl, ?_⟩
            rw [e1]
            show rd_rr L _ = _
            rw [e3, ps_run_i e6]
            rfl
          | inr qj =>
            obtain ⟨q, j2⟩ := qj
            have e5b := tsl_nw hn2 (lin_s1 hl1) id (fun z hz h9 => by rw [hz, hx1.2.1.1] at h9; cases h9) e5
            refine Or.inr ⟨i, j, j2, ds, q, e1, e2, e6, e3, e4, c4, ?_⟩
            have h9 := tsl_snoc (q := q) e5b (by omega) hsu (htf j q j2 e2 e6)
            rw [e4] at h9
            exact h9
  refine wa_iconst (v := 0) dX4_readTests_0 (by decide) ?_
  refine wa_istore_n dX4_readTests_1 (by decide) rfl rfl ?_
  refine lp 5 0 M σ rfl (by omega) (nw_rf _ _ _) hx hl ?_
  cases σ with
  | inl q => exact Or.inl ⟨q, rfl, rfl⟩
  | inr i => exact Or.inr ⟨i, i, [], rfl, rfl, (rd_cat_nil _).symm, rfl, tsl_nil hnil⟩

theorem kr_readTerms {G : mm_G} {d : Nat} {Q : Option Value → mm_M → Prop} {M : mm_M} {r t m : Nat} {K L V : Nat → Int32} {σ : (Int32 × Int32) ⊕ Nat} {e : Nat} (hx : rx_ m K L V M r t σ) (hl : lin_ M e) (hnil : ∀ j, mm_R M (e + 2) j = none) (hQ : ∀ (M' : mm_M), nw_ (fun z => z = r) (fun z => z = e + 2) M M' → rx_ m K L V M' r t (rd_run L ((ps_run (ps_term K V) K 43) 5 0) σ) → (∀ i ts j, σ = .inr i → (ps_run (ps_term K V) K 43) 5 0 i = .inr (ts, j) → tsl_ M' (e + 2) 7 ts) → Q none M') : ma_ G jX4_readTerms (d + 3) 5 15 [.ref r, .ref e] M Q := by
  refine ma_of [some (.ref r), some (.ref e), none, none] (by decide) rfl (Nat.le_of_ble_eq_true rfl) ?_
  have lp : ∀ (rr c : Nat) (M1 : mm_M) (σ1 : (Int32 × Int32) ⊕ Nat), rr + c = 5 → c ≤ 4 → nw_ (fun z => z = r) (fun z => z = e + 2) M M1 → rx_ m K L V M1 r t σ1 → lin_ M1 e → run_H L (ps_run (ps_term K V) K 43) M1 (e + 2) 7 rr c σ σ1 → wa_ 0 G jX4_readTerms (d + 3) 5 15 Q rr (3 * rr) M1 2 [some (.ref r), some (.ref e), some (.int (nI c)), none] [] := by
    intro rr
    induction rr with
    | zero => intro c M1 σ1 h1 h2; exact absurd h1 (by omega)
    | succ rr ih =>
      intro c M1 σ1 hrc hc4 hn1 hx1 hl1 hH
      have s29 : ∀ (u : Nat) (M3 : mm_M), nw_ (fun z => z = r) (fun z => z = e + 2) M M3 → rx_ m K L V M3 r t (rd_tm K L V c σ1) → lin_ M3 e → ((∃ f, rd_tm K L V c σ1 = .inl f ∧ rd_run L ((ps_run (ps_term K V) K 43) 5 0) σ = .inl f) ∨ ∃ i j j2 ds q, σ = .inr i ∧ σ1 = .inr j ∧ ps_term K V c j = .inr (q, j2) ∧ (ps_run (ps_term K V) K 43) 5 0 i = rd_cat ds ((ps_run (ps_term K V) K 43) (rr + 1) c j) ∧ ds.length = c ∧ c < 4 ∧ tsl_ M3 (e + 2) 7 (ds ++ [q])) → wa_ 0 G jX4_readTerms (d + 3) 5 15 Q rr (3 * rr) M3 29 [some (.ref r), some (.ref e), some (.int (nI c)), some (.ref u)] [] := by
        intro u M3 hn3 hx3 hl3 hor
        refine wa_aload_n dX4_readTerms_29 rfl rfl ?_
        refine wa_bipush (v := 43) dX4_readTerms_30 (by decide) ?_
        refine wa_callV  (q := (RX4, TX4, 6)) (As := [.int 43]) dX4_readTerms_32 lk_X4_31 rfl rfl hx3.2.1.1 rfl rfl (Nat.le_of_ble_eq_true rfl) (Nat.le_of_eq (Nat.zero_add _)) (Nat.le_of_eq (Nat.zero_add _)) (kr_skip 43 hx3 (fun _ _ _ => by decide) (fun i4 M4 e4 hk4 hn4 hx4 => ?_) (fun hk4 => ?_))
        · refine wa_if_ne (tgt := 41) dX4_readTerms_35 (by decide) (fun _ => ?_) (fun h9 => absurd h9 (by decide))
          refine wa_iinc (v := nI (c + 1)) dX4_readTerms_41 rfl (ni_i1 c) (by decide) rfl rfl ?_
          refine wa_goto (tgt := 2) dX4_readTerms_44 (by decide) ?_
          rcases hor with ⟨f, g1, g2⟩ | ⟨i, j, j2, ds, q, g1, g2, g3, g4, g5, g6, g7⟩
          · rw [g1] at e4
            cases e4
          · have e8 : rd_tm K L V c σ1 = .inr j2 := by rw [g2]; show rd_res L (ps_term K V c j) = _; rw [g3]; rfl
            rw [e8] at e4
            cases e4
            refine wa_set0 3 (ih (c + 1) M4 (.inr (i4 + 1)) (by omega) (by omega) (nw_tr hn3 (nw_mono hn4 (fun _ h => h) (fun _ h => h.elim))) hx4 (lin_nw hn4 id hl3) (Or.inr ⟨i, i4 + 1, ds ++ [q], g1, rfl, ?_, by rw [List.length_append, g5]; rfl, ?_⟩))
            · rw [g4, ps_run_r g3, if_pos hk4, rd_cat_cat]
            · exact tsl_nw hn4 (lin_s2 hl3) id (fun z hz h9 => by rw [hz, hx3.2.1.1] at h9; cases h9) g7
        · refine wa_if_ne (tgt := 41) dX4_readTerms_35 (by decide) (fun h9 => absurd h9 (by decide)) (fun _ => ?_)
          refine wa_goto (tgt := 47) dX4_readTerms_38 (by decide) ?_
          exact wa_vret dX4_readTerms_47 rfl (by
          refine hQ M3 hn3 ?_ (fun i ts j e1 e2 => ?_)
          · rcases hor with ⟨f, e1, e2⟩ | ⟨i, j, j2, ds, q, e1, e2, e3, e4, e5, e6, e7⟩
            · rw [e2, ← e1]; exact hx3
            · have e8 : rd_tm K L V c σ1 = .inr j2 := by rw [e2]; show rd_res L (ps_term K V c j) = _; rw [e3]; rfl
              have hk5 := hk4 j2 e8
              rw [e8] at hx3
              rw [e1]
              show rx_ m K L V M3 r t (rd_rr L ((ps_run (ps_term K V) K 43) 5 0 i))
              rw [e4, ps_run_r e3, if_neg hk5]
              exact hx3
          · rcases hor with ⟨f, f1, f2⟩ | ⟨i', j', j2, ds, q, f1, f2, f3, f4, f5, f6, f7⟩
            · rw [e1] at f2
              have f3 : rd_run L ((ps_run (ps_term K V) K 43) 5 0) (.inr i) = .inr j := by show rd_rr L _ = _; rw [e2]; rfl
              rw [f3] at f2
              cases f2
            · rw [f1] at e1
              cases e1
              have e8 : rd_tm K L V c σ1 = .inr j2 := by rw [f2]; show rd_res L (ps_term K V c j') = _; rw [f3]; rfl
              have hk5 := hk4 j2 e8
              rw [f4, ps_run_r f3, if_neg hk5] at e2
              cases e2
              exact f7)
      refine wa_iload_n dX4_readTerms_2 rfl ?_
      refine wa_iconst (v := 4) dX4_readTerms_3 (by decide) ?_
      refine wa_icmp_gt (tgt := 47) dX4_readTerms_4 (by decide) (fun hT4 => absurd hT4 (fun h => absurd ((nI_ltI (a := 4) (by decide) (by omega)).mp h) (by omega))) (fun hF4 => ?_)
      refine wa_aload_n dX4_readTerms_7 rfl rfl ?_
      refine wa_iload_n dX4_readTerms_8 rfl ?_
      refine wa_callV (kc' := rr) (ks' := 3 * rr) (q := (RX4, TX4, 6)) (As := [.int (nI c)]) dX4_readTerms_9 lk_X4_78 rfl rfl hx1.2.1.1 rfl rfl (Nat.le_of_ble_eq_true rfl) (by omega) (by omega) (kr_readTerm c hx1 hc4 (fun u M2 hn2 hx2 hfr hsu htf => ?_))
      have hl2 := lin_nw hn2 id hl1
      have hn12 := nw_tr hn1 (nw_mono hn2 (fun _ h => h) (fun _ h => h.elim : ∀ a, (fun _ : Nat => False) a → a = e + 2))
      refine wa_astore_n dX4_readTerms_12 (by decide) rfl rfl rfl ?_
      refine wa_iload_n dX4_readTerms_13 rfl ?_
      refine wa_aload_n dX4_readTerms_14 rfl rfl ?_
      refine wa_getR (q := (RX1, TX1, 3)) (ci := 1) (k := 2) dX4_readTerms_15 rfl (by decide) wf_X4_82 hl2.1 rfl (lin_r2 hl2) ?_
      refine wa_alen dX4_readTerms_18 (lin_s2 hl2) ?_
      refine wa_icmp_ge (tgt := 29) dX4_readTerms_19 (by decide) (fun hT19 => ?_) (fun hF19 => ?_)
      · have c4 : c = 4 := by
          have := ni_le (a := 4) hT19 (by decide) (by omega)
          omega
        subst c4
        refine s29 u M2 hn12 hx2 hl2 ?_
        rcases hH with ⟨f, e1, e2⟩ | ⟨i, j, ds, e1, e2, e3, e4, e5⟩
        · exact Or.inl ⟨f, by rw [e1]; rfl, e2⟩
        · cases e6 : ps_term K V 4 j with
          | inl q =>
            refine Or.inl ⟨(q.1, L q.2), by rw [e2]; show rd_res L (ps_term K V 4 j) = _; rw [e6]; rfl, ?_⟩
            rw [e1]
            show rd_rr L _ = _
            rw [e3, ps_run_i e6]
            rfl
          | inr qj => exact absurd (ps_term_4 e6) id
      · refine wa_aload_n dX4_readTerms_22 rfl rfl ?_
        refine wa_getR (q := (RX1, TX1, 3)) (ci := 1) (k := 2) dX4_readTerms_23 rfl (by decide) wf_X4_82 hl2.1 rfl (lin_r2 hl2) ?_
        refine wa_iload_n dX4_readTerms_26 rfl ?_
        refine wa_aload_n dX4_readTerms_27 rfl rfl ?_
        refine wa_aastN (q := (RX7, TX7, 3)) dX4_readTerms_28 (lin_s2 hl2) (by decide) (by decide) hsu rfl rfl (ni_nle (a := 4) hF19 (by decide) (by omega)) (by decide) ?_
        have c4 : c < 4 := ni_nle (a := 4) hF19 (by decide) (by omega)
        have hYr : ¬ r = e + 2 := fun e9 => by have h9 := hx2.2.1.1; rw [e9, lin_s2 hl2] at h9; cases h9
        have hYt : ¬ t = e + 2 := fun e9 => by have h9 := hx2.2.1.2.2.1.1; rw [e9, lin_s2 hl2] at h9; cases h9
        have hn3 : nw_ (fun z => z = r) (fun z => z = e + 2) M2 (mm_sR M2 (e + 2) c (some u)) := nw_R (nw_rf _ _ _) (Or.inl rfl)
        refine s29 u _ (nw_tr hn12 hn3) (rx_nw (X := fun _ => False) (Y := fun z => z = e + 2) (nw_R (nw_rf _ _ _) (Or.inl rfl)) ⟨id, id, id, id⟩ ⟨hYr, hYt⟩ hx2) (lin_nw hn3 (fun h => by omega) hl2) ?_
        rcases hH with ⟨f, e1, e2⟩ | ⟨i, j, ds, e1, e2, e3, e4, e5⟩
        · exact Or.inl ⟨f, by rw [e1]; rfl, e2⟩
        · cases e6 : ps_term K V c j with
          | inl q =>
            refine Or.inl ⟨(q.1, L q.2), by rw [e2]; show rd_res L (ps_term K V c j) = _; rw [e6]; rfl, ?_⟩
            rw [e1]
            show rd_rr L _ = _
            rw [e3, ps_run_i e6]
            rfl
          | inr qj =>
            obtain ⟨q, j2⟩ := qj
            have e5b := tsl_nw hn2 (lin_s2 hl1) id (fun z hz h9 => by rw [hz, hx1.2.1.1] at h9; cases h9) e5
            refine Or.inr ⟨i, j, j2, ds, q, e1, e2, e6, e3, e4, c4, ?_⟩
            have h9 := tsl_snoc (q := q) e5b (by omega) hsu (htf j q j2 e2 e6)
            rw [e4] at h9
            exact h9
  refine wa_iconst (v := 0) dX4_readTerms_0 (by decide) ?_
  refine wa_istore_n dX4_readTerms_1 (by decide) rfl rfl ?_
  refine lp 5 0 M σ rfl (by omega) (nw_rf _ _ _) hx hl ?_
  cases σ with
  | inl q => exact Or.inl ⟨q, rfl, rfl⟩
  | inr i => exact Or.inr ⟨i, i, [], rfl, rfl, (rd_cat_nil _).symm, rfl, tsl_nil hnil⟩
