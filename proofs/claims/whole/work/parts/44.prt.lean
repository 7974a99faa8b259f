/-! ports are opened -/
theorem np_ {M : mm_M} {s : mm_S} {p k ci : Nat} (hp : mm_sh M p = some (.inl ci)) (he : mm_ext M s) :
    nw_ (fun z => z = p) (fun z => z = p) M (mm_sR (mm_new M s) p k (some (mm_z M))) ∧ mm_sh (mm_sR (mm_new M s) p k (some (mm_z M))) (mm_z M) = some s ∧ mm_R (mm_sR (mm_new M s) p k (some (mm_z M))) p k = some (mm_z M) ∧ (∀ j, j ≠ k → mm_R (mm_sR (mm_new M s) p k (some (mm_z M))) p j = mm_R M p j) ∧ (∀ j, mm_I (mm_sR (mm_new M s) p k (some (mm_z M))) (mm_z M) j = 0) ∧ (∀ j, mm_I (mm_sR (mm_new M s) p k (some (mm_z M))) p j = mm_I M p j) ∧ (∀ u, ¬ mm_sh M (mm_z M) = some u) ∧ p ≠ mm_z M := by
  have hne : p ≠ mm_z M := (he _ _ hp).2.1
  refine ⟨nw_R (nw_new (nw_rf _ _ _) he) (Or.inl rfl), mm_sh_z M s, mR_eq _ _ _ _, fun j hj => ?_, fun j => mm_new_I M s j, fun j => ?_, nw_fresh (X := fun _ => False) (Y := fun _ => False) (nw_rf _ _ M) he, hne⟩
  · rw [mR_ne _ _ _ _ _ hj, mm_new_Ro hne]
  · show mm_I (mm_new M s) p j = _
    rw [mm_new_Io hne]
def po1_ (M : mm_M) (p : Nat) : mm_M := mm_sR (mm_new M (.inr (0, 5))) p 2 (some (mm_z M))
def po2_ (M : mm_M) (p : Nat) : mm_M := mm_sR (mm_new (po1_ M p) (.inr (0, 30))) p 3 (some (mm_z (po1_ M p)))
def po3_ (M : mm_M) (p : Nat) : mm_M := mm_sR (mm_new (po2_ M p) (.inr (2, 30))) p 4 (some (mm_z (po2_ M p)))
def pon_ (M : mm_M) (p : Nat) (dd op : Int32) : mm_M := mm_sI (mm_sI (mm_sI (mm_sI (mm_sI (po3_ M p) p 5 0) p 6 0) p 7 0) p 0 dd) p 1 op
/-- what is there of a new port -/
def po_F (M M' : mm_M) (p : Nat) (dd op : Int32) : Prop := nw_ (fun z => z = p) (fun z => z = p) M M' ∧ prt_ M' p ∧ mm_I M' p 0 = dd ∧ mm_I M' p 1 = op ∧ mm_I M' p 5 = 0 ∧ mm_I M' p 6 = 0 ∧ mm_I M' p 7 = 0 ∧ (∀ j, mm_I M' (p + 1) j = 0) ∧ (∀ j, mm_I M' (p + 2) j = 0) ∧ (∀ j, mm_I M' (p + 3) j = 0) ∧ (∀ k u, 1 ≤ k → k ≤ 3 → ¬ mm_sh M (p + k) = some u)
theorem po_ok {M : mm_M} {p : Nat} {dd op : Int32} (hp : mm_sh M p = some (.inl 3)) (hz : mm_z M = p + 1) (h1 : mm_ext M (.inr (0, 5))) (h2 : mm_ext (po1_ M p) (.inr (0, 30))) (h3 : mm_ext (po2_ M p) (.inr (2, 30))) : po_F M (pon_ M p dd op) p dd op := by
  obtain ⟨a1, a2, a3, a4, a5, a6, a7, a8⟩ := np_ (k := 2) hp h1
  have hp1 : mm_sh (po1_ M p) p = some (.inl 3) := (a1 _ _ hp).1
  obtain ⟨b1, b2, b3, b4, b5, b6, b7, b8⟩ := np_ (k := 3) hp1 h2
  have hp2 : mm_sh (po2_ M p) p = some (.inl 3) := (b1 _ _ hp1).1
  obtain ⟨c1, c2, c3, c4, c5, c6, c7, c8⟩ := np_ (k := 4) hp2 h3
  replace a1 : nw_ (fun z => z = p) (fun z => z = p) M (po1_ M p) := a1
  replace b1 : nw_ (fun z => z = p) (fun z => z = p) (po1_ M p) (po2_ M p) := b1
  replace c1 : nw_ (fun z => z = p) (fun z => z = p) (po2_ M p) (po3_ M p) := c1
  have z1 : mm_z (po1_ M p) = p + 2 := by show mm_z M + 1 = p + 2; omega
  have z2 : mm_z (po2_ M p) = p + 3 := by show mm_z (po1_ M p) + 1 = p + 3; omega
  rw [hz] at a2 a3 a5 a7
  rw [z1] at b2 b3 b5 b7
  rw [z2] at c2 c3 c5 c7
  rw [← hz] at a2 a3 a5
  have hn : nw_ (fun z => z = p) (fun z => z = p) M (po3_ M p) := nw_tr (nw_tr a1 b1) c1
  have s1 : mm_sh (po1_ M p) (p + 1) = some (.inr (0, 5)) := by rw [← hz]; exact a2
  have s1' := (b1 _ _ s1)
  have s1'' := (c1 _ _ s1'.1)
  have s2 : mm_sh (po2_ M p) (p + 2) = some (.inr (0, 30)) := by rw [← z1]; rw [← z1] at b2; exact b2
  have s2' := (c1 _ _ s2)
  refine ⟨nw_I (nw_I (nw_I (nw_I (nw_I hn (Or.inl rfl)) (Or.inl rfl)) (Or.inl rfl)) (Or.inl rfl)) (Or.inl rfl), ⟨(hn _ _ hp).1, ?_, s1''.1, ?_, s2'.1, ?_, ?_⟩, ?_, ?_, ?_, ?_, ?_, fun j => ?_, fun j => ?_, fun j => ?_, fun k u k1 k2 hu => ?_⟩
  · show mm_R (po3_ M p) p 2 = some (p + 1)
    refine (c4 2 (by decide)).trans ((b4 2 (by decide)).trans ?_)
    rw [← hz]; exact a3
  · show mm_R (po3_ M p) p 3 = some (p + 2)
    refine (c4 3 (by decide)).trans ?_
    rw [← z1]; rw [← z1] at b3; exact b3
  · show mm_R (po3_ M p) p 4 = some (p + 3)
    rw [← z2]; rw [← z2] at c3; exact c3
  · show mm_sh (po3_ M p) (p + 3) = some (.inr (2, 30))
    rw [← z2]; rw [← z2] at c2; exact c2
  · unfold pon_; simp [mm_I_sI]
  · unfold pon_; simp [mm_I_sI]
  · unfold pon_; simp [mm_I_sI]
  · unfold pon_; simp [mm_I_sI]
  · unfold pon_; simp [mm_I_sI]
  · have e : mm_I (pon_ M p dd op) (p + 1) j = mm_I (po3_ M p) (p + 1) j := by unfold pon_; simp [mm_I_sI]
    rw [e, s1''.2.1 (by omega), s1'.2.1 (by omega)]
    have := a5 j
    rw [hz] at this
    exact this
  · have e : mm_I (pon_ M p dd op) (p + 2) j = mm_I (po3_ M p) (p + 2) j := by unfold pon_; simp [mm_I_sI]
    rw [e, s2'.2.1 (by omega)]
    have := b5 j
    rw [← z1] at this ⊢
    exact this
  · have e : mm_I (pon_ M p dd op) (p + 3) j = mm_I (po3_ M p) (p + 3) j := by unfold pon_; simp [mm_I_sI]
    rw [e]
    have := c5 j
    rw [← z2] at this ⊢
    exact this
  · rcases (by omega : k = 1 ∨ k = 2 ∨ k = 3) with rfl | rfl | rfl
    · exact a7 u hu
    · exact b7 u (nw_sh a1 hu)
    · exact c7 u (nw_sh (nw_tr a1 b1) hu)

theorem k_X3_init {G : mm_G} {d : Nat} {Q : Option Value → mm_M → Prop} {M : mm_M} {p : Nat} (dd op : Int32) (hp : mm_sh M p = some (.inl 3)) (hz : mm_z M = p + 1) (w0 : Nat) (hG0 : G.2.2.2.1 0 = .ref w0) (hw0 : mm_sh M w0 = some (.inr (10, 5))) (hQ : ∀ M' : mm_M, po_F M M' p dd op → Q none M') : ma_ G jX3_init (d + 1) 3 65 [.ref p, .int dd, .int op] M Q := by
  refine ma_of [some (.ref p), some (.int dd), some (.int op)] (by decide) rfl (Nat.le_of_ble_eq_true rfl) ?_
  refine wa_aload_n dX3_init_0 rfl rfl ?_
  refine wa_obj dX3_init_1 lo_X3_3 wi_obj wk_obj (Nat.le_of_ble_eq_true rfl) ?_
  refine wa_aload_n dX3_init_4 rfl rfl ?_
  refine wa_getsN (k := 0) (host := "ConsulDesk") dX3_init_5 rfl (by decide) hG0 ?_
  refine wa_alen dX3_init_8 hw0 ?_
  refine wa_newa (k := 0) (n := 5) dX3_init_9 (by decide) rfl wr_int (by decide) (by decide) (by decide) (fun hext1 => ?_)
  have hp1 := (hext1 _ _ hp).1
  refine wa_putF (q := (RX3, TX3, 8)) (ci := 3) (k := 2) dX3_init_11 rfl (by decide) wf_X3_13 rfl rfl (by decide) rfl hp1 rfl ?_
  refine wa_aload_n dX3_init_14 rfl rfl ?_
  refine wa_bipush (v := 30) dX3_init_15 (by decide) ?_
  refine wa_newa (k := 0) (n := 30) dX3_init_17 (by decide) rfl wr_int (by decide) (by decide) (by decide) (fun hext2 => ?_)
  have hp2 := (hext2 _ _ hp1).1
  refine wa_putF (q := (RX3, TX3, 8)) (ci := 3) (k := 3) dX3_init_19 rfl (by decide) wf_X3_18 rfl rfl (by decide) rfl hp2 rfl ?_
  refine wa_aload_n dX3_init_22 rfl rfl ?_
  refine wa_bipush (v := 30) dX3_init_23 (by decide) ?_
  refine wa_newa (k := 2) (n := 30) dX3_init_25 (by decide) rfl wr_boolean (by decide) (by decide) (by decide) (fun hext3 => ?_)
  have hp3 := (hext3 _ _ hp2).1
  refine wa_putF (q := (RX3, TX3, 8)) (ci := 3) (k := 4) dX3_init_27 rfl (by decide) wf_X3_21 rfl rfl (by decide) rfl hp3 rfl ?_
  refine wa_aload_n dX3_init_30 rfl rfl ?_
  refine wa_iconst (v := 0) dX3_init_31 (by decide) ?_
  refine wa_put (q := (RX3, TX3, 8)) (ci := 3) (k := 5) dX3_init_32 rfl (by decide) wf_X3_25 rfl hp3 rfl ?_
  refine wa_aload_n dX3_init_35 rfl rfl ?_
  refine wa_iconst (v := 0) dX3_init_36 (by decide) ?_
  refine wa_put (q := (RX3, TX3, 8)) (ci := 3) (k := 6) dX3_init_37 rfl (by decide) wf_X3_29 rfl hp3 rfl ?_
  refine wa_aload_n dX3_init_40 rfl rfl ?_
  refine wa_iconst (v := 0) dX3_init_41 (by decide) ?_
  refine wa_put (q := (RX3, TX3, 8)) (ci := 3) (k := 7) dX3_init_42 rfl (by decide) wf_X3_32 rfl hp3 rfl ?_
  refine wa_aload_n dX3_init_45 rfl rfl ?_
  refine wa_iload_n dX3_init_46 rfl ?_
  refine wa_putF (q := (RX3, TX3, 8)) (ci := 3) (k := 0) dX3_init_47 rfl (by decide) wf_X3_35 rfl rfl (by decide) rfl hp3 rfl ?_
  refine wa_aload_n dX3_init_50 rfl rfl ?_
  refine wa_iload_n dX3_init_51 rfl ?_
  refine wa_putF (q := (RX3, TX3, 8)) (ci := 3) (k := 1) dX3_init_52 rfl (by decide) wf_X3_38 rfl rfl (by decide) rfl hp3 rfl ?_
  exact wa_vret dX3_init_55 rfl (hQ _ (po_ok (dd := dd) (op := op) hp hz hext1 hext2 hext3))

/-- a port is sent n tariffs at once -/
def psd_ (M : mm_M) (p : Nat) (c : Int32) : Nat → mm_M
  | 0 => M
  | k + 1 => mm_sI (mm_sI (psd_ M p c k) (p + 2) k c) p 5 (nI (k + 1))
theorem psd_sk (M : mm_M) (p : Nat) (c : Int32) (k : Nat) : md_sk M (psd_ M p c k) := by
  induction k with
  | zero => exact md_sk_rf M
  | succ k ih => exact ih
theorem psd_I (M : mm_M) (p : Nat) (c : Int32) (k a j : Nat) : mm_I (psd_ M p c k) a j = if a = p ∧ j = 5 ∧ 0 < k then nI k else if a = p + 2 ∧ j < k then c else mm_I M a j := by
  induction k with
  | zero => rw [if_neg (by omega), if_neg (by omega)]; rfl
  | succ k ih =>
    show mm_I (mm_sI (mm_sI (psd_ M p c k) (p + 2) k c) p 5 (nI (k + 1))) a j = _
    rw [mm_I_sI, mm_I_sI, ih]
    repeat' split
    all_goals first | rfl | (exfalso; omega)
theorem md_sk_nw {X Y : Nat → Prop} {A B C : mm_M} (h : nw_ X Y A B) (g : md_sk B C) (hI : ∀ a s, mm_sh A a = some s → ¬ X a → mm_I C a = mm_I B a) (hL : ∀ a, mm_L C a = mm_L B a) : nw_ X Y A C := by
  intro a s ha
  obtain ⟨h1, h2, h3, h4⟩ := h a s ha
  refine ⟨by rw [md_sk_sh g]; exact h1, fun q => (hI a s ha q).trans (h2 q), (hL a).trans h3, fun q => ?_⟩
  rw [← h4 q]
  obtain ⟨M1, MI, M2⟩ := B
  obtain ⟨N1, NI, N2⟩ := C
  obtain ⟨g1, g2⟩ := g
  cases g1
  cases g2
  rfl
theorem md_sk_L {A B : mm_M} (g : md_sk A B) (a : Nat) : mm_L B a = mm_L A a := by
  obtain ⟨M1, MI, M2⟩ := A
  obtain ⟨N1, NI, N2⟩ := B
  obtain ⟨g1, g2⟩ := g
  cases g1
  cases g2
  rfl
theorem md_sk_R {A B : mm_M} (g : md_sk A B) (a : Nat) : mm_R B a = mm_R A a := by
  obtain ⟨M1, MI, M2⟩ := A
  obtain ⟨N1, NI, N2⟩ := B
  obtain ⟨g1, g2⟩ := g
  cases g1
  cases g2
  rfl
theorem dsk_nw {X Y : Nat → Prop} {M M' : mm_M} {x : Nat} (h : nw_ X Y M M') (hY : ¬ Y x ∧ ¬ Y (x + 4) ∧ ¬ Y (x + 6) ∧ ¬ Y (x + 10) ∧ ¬ Y (x + 11)) (c : dsk_ M x) : dsk_ M' x := by
  obtain ⟨⟨d1, d2, d3, d4, d5, d6, d7, d8, d9, d10, d11, d12, d13, d14, d15⟩, ⟨t1, t2, t3⟩, k, r1, c1, c2⟩ := c
  have e0 := (h _ _ d1).2.2.2 hY.1
  have e4 := (h _ _ t1).2.2.2 hY.2.1
  have e10 := (h _ _ d13).2.2.2 hY.2.2.2.1
  have e11 := (h _ _ d15).2.2.2 hY.2.2.2.2
  refine ⟨⟨(h _ _ d1).1, ?_, (h _ _ d3).1, ?_, (h _ _ d5).1, ?_, (h _ _ d7).1, ?_, (h _ _ d9).1, ?_, (h _ _ d11).1, ?_, (h _ _ d13).1, ?_, (h _ _ d15).1⟩, ⟨(h _ _ t1).1, by rw [e4]; exact t2, (h _ _ t3).1⟩, tok_nw h hY.2.2.1 k, by rw [e10]; exact r1, by rw [e11]; exact c1, (h _ _ c2).1⟩ <;> (rw [e0]; assumption)
theorem prt_nw {X Y : Nat → Prop} {M M' : mm_M} {p : Nat} (h : nw_ X Y M M') (hY : ¬ Y p) (c : prt_ M p) : prt_ M' p := by
  obtain ⟨k1, k2, k3, k4, k5, k6, k7⟩ := c
  have e := (h _ _ k1).2.2.2 hY
  exact ⟨(h _ _ k1).1, by rw [e]; exact k2, (h _ _ k3).1, by rw [e]; exact k4, (h _ _ k5).1, by rw [e]; exact k6, (h _ _ k7).1⟩
/-- what is there behind the opening of a port -/
def pop_F (M M' : mm_M) (x P T p : Nat) (dd : Int32) : Prop := nw_ (fun z => z = x) (fun z => z = x + 1) M M' ∧ mm_R M' (x + 1) P = some p ∧ (∀ j, j ≠ P → mm_R M' (x + 1) j = mm_R M (x + 1) j) ∧ prt_ M' p ∧ (∀ k u, k ≤ 3 → ¬ mm_sh M (p + k) = some u) ∧ mm_I M' p 0 = dd ∧ mm_I M' p 1 = mm_I M x 10 ∧ mm_I M' p 5 = nI T ∧ mm_I M' p 6 = 0 ∧ mm_I M' p 7 = 0 ∧ (∀ j, mm_I M' (p + 1) j = 0) ∧ (∀ j, j < T → mm_I M' (p + 2) j = mm_I M x 10) ∧ (∀ j, mm_I M' (p + 3) j = 0) ∧ mm_I M' x 7 = nI (P + 1) ∧ mm_I M' x 11 = 0 ∧ ∀ j, j ≠ 7 → j ≠ 11 → mm_I M' x j = mm_I M x j

theorem k_X10_port {G : mm_G} {d : Nat} {Q : Option Value → mm_M → Prop} {M : mm_M} {x : Nat} (dd : Int32) (P T : Nat) (hx : dsk_ M x) (hP : mm_I M x 7 = nI P) (hP8 : P ≤ 8) (hT : mm_I M x 8 = nI T) (hT30 : T ≤ 30) (w0 : Nat) (hG0 : G.2.2.2.1 0 = .ref w0) (hw0 : mm_sh M w0 = some (.inr (10, 5))) (h2 : dd < 1 ∨ 60 < dd → Q (some (.int (-1))) (mm_sI M x 11 2)) (h3 : P = 8 → ¬ dd < 1 → dd ≤ 60 → Q (some (.int (-1))) (mm_sI M x 11 3)) (h1 : P < 8 → ¬ dd < 1 → dd ≤ 60 → ∀ (p : Nat) (M' : mm_M), pop_F M M' x P T p dd → Q (some (.int (nI P))) M') : ma_ G jX10_port (d + 2) 4 73 [.ref x, .int dd] M Q := by
  refine ma_of [some (.ref x), some (.int dd), none, none] (by decide) rfl (Nat.le_of_ble_eq_true rfl) ?_
  have s50 : P < 8 → ¬ dd < 1 → dd ≤ 60 → ∀ M2 : mm_M, mm_ext M (.inl 3) → po_F (mm_new M (.inl 3)) M2 (mm_z M) dd (mm_I M x 10) → wa_ 0 G jX10_port (d + 2) 4 73 Q 0 0 M2 50 [some (.ref x), some (.int dd), some (.ref (mm_z M)), some (.int (nI 0))] [] := by
    intro hP9 ha hb M2 hext hF
    obtain ⟨f1, f2, f3, f4, f5, f6, f7, f8, f9, f10, f11⟩ := hF
    have hx1 := hx
    have hn0 : nw_ (fun _ => False) (fun _ => False) M (mm_new M (.inl 3)) := nw_new (nw_rf _ _ _) hext
    have hfr := nw_fresh (X := fun _ => False) (Y := fun _ => False) (nw_rf _ _ M) hext
    have hxz : ∀ (k : Nat) (s : mm_S), mm_sh M k = some s → k ≠ mm_z M ∧ k ≠ mm_z M + 1 ∧ k ≠ mm_z M + 2 ∧ k ≠ mm_z M + 3 := fun k s hk => ⟨(hext _ _ hk).2.1, fun e => f11 1 s (by decide) (by decide) (by rw [← e]; exact (hext _ _ hk).1), fun e => f11 2 s (by decide) (by decide) (by rw [← e]; exact (hext _ _ hk).1), fun e => f11 3 s (by decide) (by decide) (by rw [← e]; exact (hext _ _ hk).1)⟩
    have hn2 : nw_ (fun _ => False) (fun _ => False) M M2 := nw_trf hn0 f1 (fun a u h1 h2 => (hxz a u h2).1 h1) (fun a u h1 h2 => (hxz a u h2).1 h1)
    have hxA : ∀ k, dsk_ (psd_ M2 (mm_z M) (mm_I M x 10) k) x := fun k => md_sk_dsk (psd_sk _ _ _ _) (dsk_nw hn2 ⟨id, id, id, id, id⟩ hx)
    have hxI : ∀ k j, mm_I (psd_ M2 (mm_z M) (mm_I M x 10) k) x j = mm_I M x j := fun k j => by
      have h9 := hxz x _ hx.1.1
      rw [psd_I, if_neg (fun q => h9.1 q.1), if_neg (fun q => h9.2.2.1 q.1), (hn2 _ _ hx.1.1).2.1 id]
    have hpA : ∀ k, prt_ (psd_ M2 (mm_z M) (mm_I M x 10) k) (mm_z M) := fun k => md_sk_prt (psd_sk _ _ _ _) f2
    have h5A : ∀ k, mm_I (psd_ M2 (mm_z M) (mm_I M x 10) k) (mm_z M) 5 = nI k := fun k => by
      rw [psd_I]
      by_cases hk : 0 < k
      · rw [if_pos ⟨rfl, rfl, hk⟩]
      · rw [if_neg (fun q => hk q.2.2), if_neg (by omega), show k = 0 from by omega]
        exact f5
    have fin : wa_ 0 G jX10_port (d + 2) 4 73 Q 0 0 (psd_ M2 (mm_z M) (mm_I M x 10) T) 72 [some (.ref x), some (.int dd), some (.ref (mm_z M)), some (.int (nI T))] [] := by
      have hxT := hxA T
      have hpT := hpA T
      refine wa_aload_n dX10_port_72 rfl rfl ?_
      refine wa_getR (q := (RX10, TX10, 13)) (ci := 10) (k := 0) dX10_port_73 rfl (by decide) wf_X10_11 hxT.1.1 rfl (dsk_r0 hxT) ?_
      refine wa_aload_n dX10_port_76 rfl rfl ?_
      refine wa_getI (q := (RX10, TX10, 13)) (ci := 10) (k := 7) dX10_port_77 rfl (by decide) wf_X10_57 hxT.1.1 rfl ?_
      rw [hxI, hP]
      refine wa_aload_n dX10_port_80 rfl rfl ?_
      refine wa_aastN (q := (RX3, TX3, 8)) dX10_port_81 (dsk_s0 hxT) (by decide) (by decide) hpT.1 rfl rfl (by omega) (by decide) ?_
      have hn9 : nw_ (fun _ => False) (fun z => z = x + 1) (psd_ M2 (mm_z M) (mm_I M x 10) T) (mm_sR (psd_ M2 (mm_z M) (mm_I M x 10) T) (x + 1) P (some (mm_z M))) := nw_R (nw_rf _ _ _) (Or.inl rfl)
      have hx9 := dsk_nw hn9 ⟨by omega, by omega, by omega, by omega, by omega⟩ hxT
      refine wa_aload_n dX10_port_82 rfl rfl ?_
      refine wa_dup dX10_port_83 rfl ?_
      
      refine wa_getI (q := (RX10, TX10, 13)) (ci := 10) (k := 7) dX10_port_84 rfl (by decide) wf_X10_57 hxT.1.1 rfl ?_
      rw [show mm_I (mm_sR (psd_ M2 (mm_z M) (mm_I M x 10) T) (x + 1) P (some (mm_z M))) x 7 = nI P from (hxI T 7).trans hP]
      refine wa_iconst (v := 1) dX10_port_87 (by decide) ?_
      refine wa_iadd dX10_port_88 ?_
      rw [show nI P + 1 = nI (P + 1) from ni_i1 P]
      refine wa_put (q := (RX10, TX10, 13)) (ci := 10) (k := 7) dX10_port_89 rfl (by decide) wf_X10_57 rfl hxT.1.1 rfl ?_
      rw [mm_putI]
      refine wa_aload_n dX10_port_92 rfl rfl ?_
      refine wa_aload_n dX10_port_93 rfl rfl ?_
      refine wa_getI (q := (RX10, TX10, 13)) (ci := 10) (k := 7) dX10_port_94 rfl (by decide) wf_X10_57 hxT.1.1 rfl ?_
      rw [mI_eq]
      refine wa_iconst (v := 1) dX10_port_97 (by decide) ?_
      refine wa_isub dX10_port_98 ?_
      rw [nI_pred P]
      refine wa_callV  (q := (RX10, TX10, 13)) (As := [.int (nI P)]) dX10_port_99 lk_X10_87 rfl rfl hxT.1.1 rfl rfl (Nat.le_of_ble_eq_true rfl) (Nat.le_of_eq (Nat.zero_add _)) (Nat.le_of_eq (Nat.zero_add _)) (k_X10_accept (nI P) (x := x) hx9 ?_)
      exact wa_iret dX10_port_102 rfl (by
        refine h1 hP9 ha hb (mm_z M) _ ⟨?_, ?_, fun j hj => ?_, ?_, ?_, ?_, ?_, ?_, ?_, ?_, fun j => ?_, fun j hj => ?_, fun j => ?_, ?_, ?_, fun j j1 j2 => ?_⟩
        · refine nw_I (nw_I (nw_R (md_sk_nw (nw_mono hn2 (fun _ h => h.elim) (fun _ h => h.elim)) (psd_sk _ _ _ _) (fun a s ha _ => ?_) (fun a => md_sk_L (psd_sk _ _ _ _) a)) (Or.inl rfl)) (Or.inl rfl)) (Or.inl rfl)
          have h9 := hxz a s ha
          funext j
          rw [psd_I, if_neg (fun q => h9.1 q.1), if_neg (fun q => h9.2.2.1 q.1)]
        · exact mR_eq _ _ _ _
        · refine (mR_ne _ _ _ _ _ hj).trans ?_
          rw [md_sk_R (psd_sk _ _ _ _), (hn2 _ _ (dsk_s0 hx)).2.2.2 id]
        · show prt_ (mm_sR (psd_ M2 (mm_z M) (mm_I M x 10) T) (x + 1) P (some (mm_z M))) (mm_z M)
          exact prt_nw hn9 (fun (q : mm_z M = x + 1) => (hxz _ _ (dsk_s0 hx)).1 q.symm) hpT
        · intro k u hk hu
          rcases (by omega : k = 0 ∨ k = 1 ∨ k = 2 ∨ k = 3) with rfl | rfl | rfl | rfl
          · exact hfr u hu
          · exact f11 1 u (by decide) (by decide) (hext _ _ hu).1
          · exact f11 2 u (by decide) (by decide) (hext _ _ hu).1
          · exact f11 3 u (by decide) (by decide) (hext _ _ hu).1
        all_goals have h9 := hxz x _ hx.1.1
        · rw [mI_na _ _ _ _ _ _ (Ne.symm h9.1), mI_na _ _ _ _ _ _ (Ne.symm h9.1)]
          show mm_I (psd_ M2 (mm_z M) (mm_I M x 10) T) (mm_z M) 0 = dd
          rw [psd_I, if_neg (by omega), if_neg (by omega)]; exact f3
        · rw [mI_na _ _ _ _ _ _ (Ne.symm h9.1), mI_na _ _ _ _ _ _ (Ne.symm h9.1)]
          show mm_I (psd_ M2 (mm_z M) (mm_I M x 10) T) (mm_z M) 1 = _
          rw [psd_I, if_neg (by omega), if_neg (by omega)]; exact f4
        · rw [mI_na _ _ _ _ _ _ (Ne.symm h9.1), mI_na _ _ _ _ _ _ (Ne.symm h9.1)]
          exact h5A T
        · rw [mI_na _ _ _ _ _ _ (Ne.symm h9.1), mI_na _ _ _ _ _ _ (Ne.symm h9.1)]
          show mm_I (psd_ M2 (mm_z M) (mm_I M x 10) T) (mm_z M) 6 = _
          rw [psd_I, if_neg (by omega), if_neg (by omega)]; exact f6
        · rw [mI_na _ _ _ _ _ _ (Ne.symm h9.1), mI_na _ _ _ _ _ _ (Ne.symm h9.1)]
          show mm_I (psd_ M2 (mm_z M) (mm_I M x 10) T) (mm_z M) 7 = _
          rw [psd_I, if_neg (by omega), if_neg (by omega)]; exact f7
        · rw [mI_na _ _ _ _ _ _ (Ne.symm h9.2.1), mI_na _ _ _ _ _ _ (Ne.symm h9.2.1)]
          show mm_I (psd_ M2 (mm_z M) (mm_I M x 10) T) (mm_z M + 1) j = _
          rw [psd_I, if_neg (by omega), if_neg (by omega)]; exact f8 j
        · rw [mI_na _ _ _ _ _ _ (Ne.symm h9.2.2.1), mI_na _ _ _ _ _ _ (Ne.symm h9.2.2.1)]
          show mm_I (psd_ M2 (mm_z M) (mm_I M x 10) T) (mm_z M + 2) j = _
          rw [psd_I, if_neg (by omega), if_pos ⟨rfl, hj⟩]
        · rw [mI_na _ _ _ _ _ _ (Ne.symm h9.2.2.2), mI_na _ _ _ _ _ _ (Ne.symm h9.2.2.2)]
          show mm_I (psd_ M2 (mm_z M) (mm_I M x 10) T) (mm_z M + 3) j = _
          rw [psd_I, if_neg (by omega), if_neg (by omega)]; exact f10 j
        · rw [mI_ne _ _ _ _ _ (by decide)]; exact mI_eq _ _ _ _
        · exact mI_eq _ _ _ _
        · rw [mI_ne _ _ _ _ _ j2, mI_ne _ _ _ _ _ j1]
          exact hxI T j)
    have loop : ∀ (r t : Nat), T - t = r → t ≤ T → wa_ 0 G jX10_port (d + 2) 4 73 Q 0 0 (psd_ M2 (mm_z M) (mm_I M x 10) t) 50 [some (.ref x), some (.int dd), some (.ref (mm_z M)), some (.int (nI t))] [] := by
      intro r
      induction r using Nat.strongRecOn with
      | ind r ih =>
        intro t hr ht
        have hxt := hxA t
        have hpt := hpA t
        refine wa_iload_n dX10_port_50 rfl ?_
        refine wa_aload_n dX10_port_51 rfl rfl ?_
        refine wa_getI (q := (RX10, TX10, 13)) (ci := 10) (k := 8) dX10_port_52 rfl (by decide) wf_X10_61 hxt.1.1 rfl ?_
        rw [hxI, hT]
        refine wa_icmp_ge (tgt := 72) dX10_port_55 (by decide) (fun hT55 => ?_) (fun hF55 => ?_)
        · have ht2 : T = t := by
            have := ni_le hT55 (by omega) (by omega)
            omega
          subst ht2
          exact fin
        · have ht2 : t < T := ni_nle hF55 (by omega) (by omega)
          refine wa_aload_n dX10_port_58 rfl rfl ?_
          refine wa_aload_n dX10_port_59 rfl rfl ?_
          refine wa_getI (q := (RX10, TX10, 13)) (ci := 10) (k := 10) dX10_port_60 rfl (by decide) wf_X10_67 hxt.1.1 rfl ?_
          rw [hxI]
          refine wa_callV  (q := (RX3, TX3, 8)) (As := [.int (mm_I M x 10)]) dX10_port_63 lk_X10_83 rfl rfl hpt.1 rfl rfl (Nat.le_of_ble_eq_true rfl) (Nat.le_of_eq (Nat.zero_add _)) (Nat.le_of_eq (Nat.zero_add _)) (k_X3_send (mm_I M x 10) t hpt (h5A t) (by omega) ?_)
          refine wa_iinc (v := nI (t + 1)) dX10_port_66 rfl (ni_i1 t) (by decide) rfl rfl ?_
          refine wa_goto (tgt := 50) dX10_port_69 (by decide) ?_
          exact ih (T - (t + 1)) (by omega) (t + 1) rfl (by omega)
    exact loop T 0 rfl (Nat.zero_le _)
  refine wa_iload_n dX10_port_0 rfl ?_
  refine wa_iconst (v := 1) dX10_port_1 (by decide) ?_
  refine wa_icmp_lt (tgt := 11) dX10_port_2 (by decide) (fun hT2 => ?_) (fun hF2 => ?_)
  · refine wa_aload_n dX10_port_11 rfl rfl ?_
    refine wa_iconst (v := 2) dX10_port_12 (by decide) ?_
    refine wa_callV  (q := (RX10, TX10, 13)) (As := [.int 2]) dX10_port_13 lk_X10_76 rfl rfl hx.1.1 rfl rfl (Nat.le_of_ble_eq_true rfl) (Nat.le_of_eq (Nat.zero_add _)) (Nat.le_of_eq (Nat.zero_add _)) (k_X10_refuse 2 hx ?_)
    exact wa_iret dX10_port_16 rfl (h2 (by first | exact Or.inl hT2 | exact Or.inr (Int32.not_le.mp hF8)))
  · refine wa_iload_n dX10_port_5 rfl ?_
    refine wa_bipush (v := 60) dX10_port_6 (by decide) ?_
    refine wa_icmp_le (tgt := 17) dX10_port_8 (by decide) (fun hT8 => ?_) (fun hF8 => ?_)
    · refine wa_aload_n dX10_port_17 rfl rfl ?_
      refine wa_getI (q := (RX10, TX10, 13)) (ci := 10) (k := 7) dX10_port_18 rfl (by decide) wf_X10_57 hx.1.1 rfl ?_
      refine wa_aload_n dX10_port_21 rfl rfl ?_
      refine wa_getR (q := (RX10, TX10, 13)) (ci := 10) (k := 0) dX10_port_22 rfl (by decide) wf_X10_11 hx.1.1 rfl (dsk_r0 hx) ?_
      refine wa_alen dX10_port_25 (dsk_s0 hx) ?_
      rw [hP]
      refine wa_icmp_lt (tgt := 35) dX10_port_26 (by decide) (fun hT26 => ?_) (fun hF26 => ?_)
      · have hP9 : P < 8 := ni_lt (b := 8) hT26 (by omega) (by decide)
        refine wa_new (n := 8) (q := (RX3, TX3, 8)) (ci := 3) dX10_port_35 rfl rfl wc_X10_9 wt_X3 wn_X3 (fun hext => ?_)
        have hx0 := dsk_nw (nw_new (nw_rf (fun _ => False) (fun _ => False) _) hext) ⟨id, id, id, id, id⟩ hx
        refine wa_dup dX10_port_38 rfl ?_
        refine wa_iload_n dX10_port_39 rfl ?_
        refine wa_aload_n dX10_port_40 rfl rfl ?_
        refine wa_getI (q := (RX10, TX10, 13)) (ci := 10) (k := 10) dX10_port_41 rfl (by decide) wf_X10_67 hx0.1.1 rfl ?_
        rw [mm_new_Io (hext _ _ hx.1.1).2.1]
        refine wa_callI (kc' := 0) (ks' := 0) (As := [.int dd, .int (mm_I M x 10)]) dX10_port_44 lk_X10_80 rfl rfl rfl (Nat.le_of_ble_eq_true rfl) (by decide) (by decide) (k_X3_init dd (mm_I M x 10) (mm_sh_z M (.inl 3)) rfl w0 hG0 (hext _ _ hw0).1 (fun M2 hF => ?_))
        refine wa_astore_n dX10_port_47 (by decide) rfl rfl rfl ?_
        refine wa_iconst (v := 0) dX10_port_48 (by decide) ?_
        refine wa_istore_n dX10_port_49 (by decide) rfl rfl ?_
        exact s50 hP9 hF2 hT8 M2 hext hF
      · have hP9 : P = 8 := by
          have := ni_nlt (b := 8) hF26 (by omega) (by decide)
          omega
        refine wa_aload_n dX10_port_29 rfl rfl ?_
        refine wa_iconst (v := 3) dX10_port_30 (by decide) ?_
        refine wa_callV  (q := (RX10, TX10, 13)) (As := [.int 3]) dX10_port_31 lk_X10_76 rfl rfl hx.1.1 rfl rfl (Nat.le_of_ble_eq_true rfl) (Nat.le_of_eq (Nat.zero_add _)) (Nat.le_of_eq (Nat.zero_add _)) (k_X10_refuse 3 hx ?_)
        exact wa_iret dX10_port_34 rfl (h3 hP9 hF2 hT8)
    · refine wa_aload_n dX10_port_11 rfl rfl ?_
      refine wa_iconst (v := 2) dX10_port_12 (by decide) ?_
      refine wa_callV  (q := (RX10, TX10, 13)) (As := [.int 2]) dX10_port_13 lk_X10_76 rfl rfl hx.1.1 rfl rfl (Nat.le_of_ble_eq_true rfl) (Nat.le_of_eq (Nat.zero_add _)) (Nat.le_of_eq (Nat.zero_add _)) (k_X10_refuse 2 hx ?_)
      exact wa_iret dX10_port_16 rfl (h2 (by first | exact Or.inl hT2 | exact Or.inr (Int32.not_le.mp hF8)))
