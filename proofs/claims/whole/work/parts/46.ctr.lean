/-! the class is told a tariff -/
theorem lnf_nw2 {X Y : Nat → Prop} {M M' : mm_M} {e : Nat} {q : ps_L} (h : nw_ X Y M M') (hX : ∀ a, X a → ¬ mm_sh M a = some (.inl 1) ∧ ¬ mm_sh M a = some (.inl 7) ∧ ¬ mm_sh M a = some (.inl 8)) (hY : ∀ a, Y a → ¬ mm_sh M a = some (.inl 1) ∧ ¬ mm_sh M a = some (.inr (9, 4)) ∧ ¬ mm_sh M a = some (.inr (8, 4))) (c : lnf_ M e q) : lnf_ M' e q := by
  obtain ⟨c1, c2, c3, c4⟩ := c
  refine ⟨lin_nw h (fun z => (hY _ z).1 c1.1) c1, ?_, tsl_nw h (lin_s1 c1) (fun z => (hY _ z).2.1 (lin_s1 c1)) (fun u hu h9 => (hX _ hu).2.2 h9) c3, tsl_nw h (lin_s2 c1) (fun z => (hY _ z).2.2 (lin_s2 c1)) (fun u hu h9 => (hX _ hu).2.1 h9) c4⟩
  rw [(h _ _ c1.1).2.1 (fun z => (hX _ z).1 c1.1)]; exact c2
theorem lsl_nw2 {X Y : Nat → Prop} {M M' : mm_M} {la : Nat} {ls : List ps_L} (h : nw_ X Y M M') (ha : mm_sh M la = some (.inr (4, 12))) (hX : ∀ a, X a → ¬ mm_sh M a = some (.inl 1) ∧ ¬ mm_sh M a = some (.inl 7) ∧ ¬ mm_sh M a = some (.inl 8)) (hY : ∀ a, Y a → ¬ mm_sh M a = some (.inl 1) ∧ ¬ mm_sh M a = some (.inr (9, 4)) ∧ ¬ mm_sh M a = some (.inr (8, 4))) (hY2 : ¬ Y la) (c : lsl_ M la ls) : lsl_ M' la ls := by
  intro k hk
  obtain ⟨c1, c2⟩ := c k hk
  have e := (h _ _ ha).2.2.2 hY2
  refine ⟨fun q hq => ?_, fun hn => by rw [e]; exact c2 hn⟩
  obtain ⟨u, u1, u2⟩ := c1 q hq
  exact ⟨u, by rw [e]; exact u1, lnf_nw2 h hX hY u2⟩
def xt10_ (x z : Nat) : Prop := z = x ∨ z = x + 4 ∨ (x + 6 ≤ z ∧ z ≤ x + 9) ∨ z = x + 10
theorem xt10_sh {M : mm_M} {x z : Nat} (hx : dsk_ M x) (h : xt10_ x z) : mm_sh M z = some (.inl 10) ∨ mm_sh M z = some (.inl 5) ∨ mm_sh M z = some (.inl 9) ∨ mm_sh M z = some (.inr (0, 301)) ∨ mm_sh M z = some (.inl 4) := by
  unfold xt10_ at h
  rcases (by omega : z = x ∨ z = x + 4 ∨ z = x + 6 ∨ z = x + 6 + 1 ∨ z = x + 6 + 2 ∨ z = x + 6 + 3 ∨ z = x + 10) with rfl | rfl | rfl | rfl | rfl | rfl | rfl
  · exact Or.inl hx.1.1
  · exact Or.inr (Or.inl (dsk_s3 hx))
  · exact Or.inr (Or.inr (Or.inl (dsk_s4 hx)))
  · exact Or.inr (Or.inr (Or.inr (Or.inl (tok_s0 hx.2.2.1))))
  · exact Or.inr (Or.inr (Or.inr (Or.inl (tok_s1 hx.2.2.1))))
  · exact Or.inr (Or.inr (Or.inr (Or.inl (tok_s2 hx.2.2.1))))
  · exact Or.inr (Or.inr (Or.inr (Or.inr (dsk_s5 hx))))
theorem xt10_no {M : mm_M} {x z : Nat} {s : mm_S} (hx : dsk_ M x) (h : xt10_ x z) (hs : mm_sh M z = some s) : s = .inl 10 ∨ s = .inl 5 ∨ s = .inl 9 ∨ s = .inr (0, 301) ∨ s = .inl 4 := by
  rcases xt10_sh hx h with e | e | e | e | e <;> rw [hs] at e <;> cases e
  · exact Or.inl rfl
  · exact Or.inr (Or.inl rfl)
  · exact Or.inr (Or.inr (Or.inl rfl))
  · exact Or.inr (Or.inr (Or.inr (Or.inl rfl)))
  · exact Or.inr (Or.inr (Or.inr (Or.inr rfl)))
/-- behind a tariff that was refused -/
def taf_F (M M' : mm_M) (x : Nat) (tr fa : Int32) : Prop := nw_ (xt10_ x) (fun _ => False) M M' ∧ mm_I M' x 11 = tr ∧ mm_I M' x 12 = fa ∧ (∀ j, j ≠ 11 → j ≠ 12 → mm_I M' x j = mm_I M x j) ∧ mm_I M' (x + 4) 1 = 0
/-- behind a tariff that was told -/
def tar_F (M M' : mm_M) (x P T : Nat) (pa : Nat → Nat) (ls : List ps_L) (ta la : Nat) : Prop := nw_ (fun z => xt10_ x z ∨ ∃ q, q < P ∧ (z = pa q ∨ z = pa q + 2)) (fun z => z = x + 2) M M' ∧ mm_R M' (x + 2) T = some ta ∧ (∀ j, j ≠ T → mm_R M' (x + 2) j = mm_R M (x + 2) j) ∧ (∀ u, ¬ mm_sh M ta = some u) ∧ (∀ u, ¬ mm_sh M la = some u) ∧ mm_sh M' ta = some (.inl 6) ∧ mm_R M' ta 1 = some la ∧ mm_I M' ta 0 = mm_I M x 10 ∧ mm_sh M' la = some (.inr (4, 12)) ∧ lsl_ M' la ls ∧ mm_I M' x 8 = nI (T + 1) ∧ mm_I M' x 11 = 0 ∧ mm_I M' x 12 = 0 ∧ (∀ j, j ≠ 8 → j ≠ 11 → j ≠ 12 → mm_I M' x j = mm_I M x j) ∧ mm_I M' (x + 4) 1 = 0 ∧
  ∀ q, q < P → mm_I M' (pa q) 5 = nI (T + 1) ∧ (∀ j, j ≠ 5 → mm_I M' (pa q) j = mm_I M (pa q) j) ∧ mm_I M' (pa q + 2) T = mm_I M x 10 + mm_I M (pa q) 0 ∧ ∀ j, j ≠ T → mm_I M' (pa q + 2) j = mm_I M (pa q + 2) j

theorem k_X10_tariffO {G : mm_G} {d : Nat} {Q : Option Value → mm_M → Prop} {M : mm_M} {x : Nat} (n : Nat) (P9 T : Nat) (pa : Nat → Nat) (f n0 : Nat) (b : Nat → Int32) (hcs : G.2.2.2.1 3 = .int 1) (hsf : G.2.2.2.1 6 = va_rn f) (hx : dsk_ M x) (hP : dPw_ M x P9 pa) (hinj : ∀ q r, q < P9 → r < P9 → pa q = pa r → q = r) (hS : ∀ q, q < P9 → mm_I M (pa q) 5 = nI T) (hT : mm_I M x 8 = nI T) (hT30 : T ≤ 30) (hb : tpb_ M (x + 4) n0 n b)
    (hF : ∀ (m : Nat) (K L V : Nat → Int32) (P : Nat → Nat) (q : Int32) (j : Nat) (M' : mm_M), stm_ b n m K L V P → P 0 = 0 → ps_lines K V 13 0 0 = .inl (q, j) → taf_F M M' x 4 q → mm_I M' (x + 10) 1 = L j → Q (some (.int (-1))) M')
    (hR : ∀ (m : Nat) (K L V : Nat → Int32) (P : Nat → Nat) (ls : List ps_L) (M' : mm_M), stm_ b n m K L V P → P 0 = 0 → ps_lines K V 13 0 0 = .inr ls → T = 30 → taf_F M M' x 3 0 → Q (some (.int (-1))) M')
    (hO : ∀ (m : Nat) (K L V : Nat → Int32) (P : Nat → Nat) (ls : List ps_L) (ta la : Nat) (M' : mm_M), stm_ b n m K L V P → P 0 = 0 → ps_lines K V 13 0 0 = .inr ls → T < 30 → tar_F M M' x P9 T pa ls ta la → Q (some (.int (nI T))) M') : ma_ G jX10_tariff (d + 9) 171 547 [.ref x, .int (nI n)] M Q := by
  refine ma_of [some (.ref x), some (.int (nI n)), none] (by decide) rfl (Nat.le_of_ble_eq_true rfl) ?_
  have s69 : ∀ (ls : List ps_L) (la : Nat) (M3 : mm_M), taf_F M M3 x (mm_I M x 11) 0 → mm_sh M3 la = some (.inr (4, 12)) → lsl_ M3 la ls → (∀ u, ¬ mm_sh M la = some u) → (T = 30 → Q (some (.int (-1))) (mm_sI M3 x 11 3)) → (∀ (ta : Nat) (M' : mm_M), T < 30 → tar_F M M' x P9 T pa ls ta la → Q (some (.int (nI T))) M') → wa_ 0 G jX10_tariff (d + 9) 171 547 Q 1 2 M3 69 [some (.ref x), some (.int (nI n)), some (.ref la)] [] := by
    intro ls la M3 hF3 hla hls hfl hR hO
    obtain ⟨f1, f2, f3, f4, f5⟩ := hF3
    have hx3 := dsk_nw f1 ⟨id, id, id, id, id⟩ hx
    have g7 : mm_I M3 x 7 = nI P9 := (f4 7 (by decide) (by decide)).trans hP.1
    have g8 : mm_I M3 x 8 = nI T := (f4 8 (by decide) (by decide)).trans hT
    have g10 : mm_I M3 x 10 = mm_I M x 10 := f4 10 (by decide) (by decide)
    have xpa : ∀ q, q < P9 → ¬ xt10_ x (pa q) ∧ ¬ xt10_ x (pa q + 2) := fun q hq => ⟨fun h => (by rcases xt10_no hx h (hP.2.2 q hq).2.1 with e | e | e | e | e <;> cases e), fun h => (by rcases xt10_no hx h (prt_s3 (hP.2.2 q hq).2) with e | e | e | e | e <;> cases e)⟩
    have hp3 : ∀ q, q < P9 → prt_ M3 (pa q) := fun q hq => prt_nw f1 id (hP.2.2 q hq).2
    have x2 : ∀ q, q < P9 → pa q ≠ x + 2 := fun q hq e => by have h := (hP.2.2 q hq).2.1; rw [e, dsk_s1 hx] at h; cases h
    refine wa_aload_n dX10_tariff_69 rfl rfl ?_
    refine wa_getI (q := (RX10, TX10, 13)) (ci := 10) (k := 8) dX10_tariff_70 rfl (by decide) wf_X10_61 hx3.1.1 rfl ?_
    refine wa_aload_n dX10_tariff_73 rfl rfl ?_
    refine wa_getR (q := (RX10, TX10, 13)) (ci := 10) (k := 1) dX10_tariff_74 rfl (by decide) wf_X10_17 hx3.1.1 rfl (dsk_r1 hx3) ?_
    refine wa_alen dX10_tariff_77 (dsk_s1 hx3) ?_
    rw [g8]
    refine wa_icmp_lt (tgt := 87) dX10_tariff_78 (by decide) (fun hT78 => ?_) (fun hF78 => ?_)
    · have hT9 : T < 30 := ni_lt (b := 30) hT78 (by omega) (by decide)
      refine wa_aload_n dX10_tariff_87 rfl rfl ?_
      refine wa_getR (q := (RX10, TX10, 13)) (ci := 10) (k := 1) dX10_tariff_88 rfl (by decide) wf_X10_17 hx3.1.1 rfl (dsk_r1 hx3) ?_
      refine wa_aload_n dX10_tariff_91 rfl rfl ?_
      refine wa_getI (q := (RX10, TX10, 13)) (ci := 10) (k := 8) dX10_tariff_92 rfl (by decide) wf_X10_61 hx3.1.1 rfl ?_
      rw [g8]
      refine wa_new (n := 2) (q := (RX6, TX6, 2)) (ci := 6) dX10_tariff_95 rfl rfl wc_X10_15 wt_X6 wn_X6 (fun hext => ?_)
      have hx4 := dsk_nw (nw_new (nw_rf (fun _ => False) (fun _ => False) _) hext) ⟨id, id, id, id, id⟩ hx3
      have hfz := nw_fresh (X := fun _ => False) (Y := fun _ => False) (nw_rf _ _ M3) hext
      have hxz : x ≠ mm_z M3 := (hext _ _ hx3.1.1).2.1
      refine wa_dup dX10_tariff_98 rfl ?_
      refine wa_aload_n dX10_tariff_99 rfl rfl ?_
      refine wa_getI (q := (RX10, TX10, 13)) (ci := 10) (k := 10) dX10_tariff_100 rfl (by decide) wf_X10_67 hx4.1.1 rfl ?_
      rw [mm_new_Io hxz, g10]
      refine wa_aload_n dX10_tariff_103 rfl rfl ?_
      refine wa_callI  (As := [.int (mm_I M x 10), .ref la]) dX10_tariff_104 lk_X10_110 rfl rfl rfl (Nat.le_of_ble_eq_true rfl) (Nat.le_of_eq (Nat.zero_add _)) (Nat.le_of_eq (Nat.zero_add _)) (k_X6_init (mm_I M x 10) la (mm_sh_z M3 (.inl 6)) ?_)
      have hn5 : nw_ (fun _ => False) (fun _ => False) M3 (mm_sR (mm_sI (mm_new M3 (.inl 6)) (mm_z M3) 0 (mm_I M x 10)) (mm_z M3) 1 (some la)) := nw_R (nw_I (nw_new (nw_rf _ _ _) hext) (Or.inr hfz)) (Or.inr hfz)
      have hx5 := dsk_nw hn5 ⟨id, id, id, id, id⟩ hx3
      refine wa_aastN (q := (RX6, TX6, 2)) dX10_tariff_107 (dsk_s1 hx5) (by decide) (by decide) (mm_sh_z M3 (.inl 6)) rfl rfl (by omega) (by decide) ?_
      have hn6 : nw_ (fun _ => False) (fun z => z = x + 2) M3 (mm_sR (mm_sR (mm_sI (mm_new M3 (.inl 6)) (mm_z M3) 0 (mm_I M x 10)) (mm_z M3) 1 (some la)) (x + 2) T (some (mm_z M3))) := nw_R (nw_mono hn5 (fun _ h => h) (fun _ h => h.elim)) (Or.inl rfl)
      have hx6 := dsk_nw hn6 ⟨by omega, by omega, by omega, by omega, by omega⟩ hx3
      have i6 : ∀ j, mm_I (mm_sR (mm_sR (mm_sI (mm_new M3 (.inl 6)) (mm_z M3) 0 (mm_I M x 10)) (mm_z M3) 1 (some la)) (x + 2) T (some (mm_z M3))) x j = mm_I M3 x j := fun j => by rw [(hn6 _ _ hx3.1.1).2.1 id]
      have hxx := hx6
      refine wa_aload_n dX10_tariff_108 rfl rfl ?_
      refine wa_dup dX10_tariff_109 rfl ?_
      refine wa_getI (q := (RX10, TX10, 13)) (ci := 10) (k := 8) dX10_tariff_110 rfl (by decide) wf_X10_61 hx5.1.1 rfl ?_
      rw [i6, g8]
      refine wa_iconst (v := 1) dX10_tariff_113 (by decide) ?_
      refine wa_iadd dX10_tariff_114 ?_
      rw [show nI T + 1 = nI (T + 1) from ni_i1 T]
      refine wa_put (q := (RX10, TX10, 13)) (ci := 10) (k := 8) dX10_tariff_115 rfl (by decide) wf_X10_61 rfl hx5.1.1 rfl ?_
      rw [mm_putI]
      have hn7 : nw_ (fun z => z = x) (fun z => z = x + 2) M3 (mm_sI (mm_sR (mm_sR (mm_sI (mm_new M3 (.inl 6)) (mm_z M3) 0 (mm_I M x 10)) (mm_z M3) 1 (some la)) (x + 2) T (some (mm_z M3))) x 8 (nI (T + 1))) := nw_I (nw_mono hn6 (fun _ h => h.elim) (fun _ h => h)) (Or.inl rfl)
      have hx7 := dsk_nw hn7 ⟨by omega, by omega, by omega, by omega, by omega⟩ hx3
      have i7 : ∀ j, j ≠ 8 → mm_I (mm_sI (mm_sR (mm_sR (mm_sI (mm_new M3 (.inl 6)) (mm_z M3) 0 (mm_I M x 10)) (mm_z M3) 1 (some la)) (x + 2) T (some (mm_z M3))) x 8 (nI (T + 1))) x j = mm_I M3 x j := fun j hj => (mI_ne _ _ _ _ _ hj).trans (i6 j)
      have p7 : ∀ q, q < P9 → mm_I (mm_sI (mm_sR (mm_sR (mm_sI (mm_new M3 (.inl 6)) (mm_z M3) 0 (mm_I M x 10)) (mm_z M3) 1 (some la)) (x + 2) T (some (mm_z M3))) x 8 (nI (T + 1))) (pa q) = mm_I M (pa q) ∧ mm_I (mm_sI (mm_sR (mm_sR (mm_sI (mm_new M3 (.inl 6)) (mm_z M3) 0 (mm_I M x 10)) (mm_z M3) 1 (some la)) (x + 2) T (some (mm_z M3))) x 8 (nI (T + 1))) (pa q + 2) = mm_I M (pa q + 2) := fun q hq => ⟨((hn7 _ _ (hp3 q hq).1).2.1 (fun e => (dsk_pa hx3 (hp3 q hq)).1 e.symm)).trans ((f1 _ _ (hP.2.2 q hq).2.1).2.1 (xpa q hq).1), ((hn7 _ _ (prt_s3 (hp3 q hq))).2.1 (fun e => (dsk_pa hx3 (hp3 q hq)).2.1 e.symm)).trans ((f1 _ _ (prt_s3 (hP.2.2 q hq).2)).2.1 (xpa q hq).2)⟩
      have hP7 : dPw_ (mm_sI (mm_sR (mm_sR (mm_sI (mm_new M3 (.inl 6)) (mm_z M3) 0 (mm_I M x 10)) (mm_z M3) 1 (some la)) (x + 2) T (some (mm_z M3))) x 8 (nI (T + 1))) x P9 pa := ⟨(i7 7 (by decide)).trans g7, hP.2.1, fun q hq => ⟨by rw [show mm_R (mm_sI (mm_sR (mm_sR (mm_sI (mm_new M3 (.inl 6)) (mm_z M3) 0 (mm_I M x 10)) (mm_z M3) 1 (some la)) (x + 2) T (some (mm_z M3))) x 8 (nI (T + 1))) (x + 1) = mm_R M (x + 1) from ((hn7 _ _ (dsk_s0 hx3)).2.2.2 (fun e => by omega)).trans ((f1 _ _ (dsk_s0 hx)).2.2.2 id)]; exact (hP.2.2 q hq).1, prt_nw hn7 (x2 q hq) (hp3 q hq)⟩⟩
      have hS7 : ∀ q, q < P9 → mm_I (mm_sI (mm_sR (mm_sR (mm_sI (mm_new M3 (.inl 6)) (mm_z M3) 0 (mm_I M x 10)) (mm_z M3) 1 (some la)) (x + 2) T (some (mm_z M3))) x 8 (nI (T + 1))) (pa q) 5 = nI T := fun q hq => by rw [(p7 q hq).1]; exact hS q hq
      refine wa_aload_n dX10_tariff_118 rfl rfl ?_
      refine wa_callV  (q := (RX10, TX10, 13)) (As := []) dX10_tariff_119 lk_X10_113 rfl rfl hx5.1.1 rfl rfl (Nat.le_of_ble_eq_true rfl) (Nat.le_of_eq (Nat.zero_add _)) (Nat.le_of_eq (Nat.zero_add _)) (k_X10_sendOut P9 T pa hx7 hP7 hinj hS7 hT9 ?_)
      have hd : pap_ P9 pa := pap_of (fun q hq => (hP7.2.2 q hq).2) hinj
      have hx8 := md_sk_dsk (so_sk (mm_sI (mm_sR (mm_sR (mm_sI (mm_new M3 (.inl 6)) (mm_z M3) 0 (mm_I M x 10)) (mm_z M3) 1 (some la)) (x + 2) T (some (mm_z M3))) x 8 (nI (T + 1))) x T pa P9) hx7
      have x8 : ∀ j, mm_I (so_ (mm_sI (mm_sR (mm_sR (mm_sI (mm_new M3 (.inl 6)) (mm_z M3) 0 (mm_I M x 10)) (mm_z M3) 1 (some la)) (x + 2) T (some (mm_z M3))) x 8 (nI (T + 1))) x T pa P9) x j = mm_I (mm_sI (mm_sR (mm_sR (mm_sI (mm_new M3 (.inl 6)) (mm_z M3) 0 (mm_I M x 10)) (mm_z M3) 1 (some la)) (x + 2) T (some (mm_z M3))) x 8 (nI (T + 1))) x j := fun j => so_o P9 (fun q hq => ⟨fun z => (dsk_pa hx7 (hP7.2.2 q hq).2).1 z.1, fun z => (dsk_pa hx7 (hP7.2.2 q hq).2).2.1 z.1⟩)
      refine wa_aload_n dX10_tariff_122 rfl rfl ?_
      refine wa_aload_n dX10_tariff_123 rfl rfl ?_
      refine wa_getI (q := (RX10, TX10, 13)) (ci := 10) (k := 8) dX10_tariff_124 rfl (by decide) wf_X10_61 hx8.1.1 rfl ?_
      rw [x8, mI_eq]
      refine wa_iconst (v := 1) dX10_tariff_127 (by decide) ?_
      refine wa_isub dX10_tariff_128 ?_
      rw [nI_pred T]
      refine wa_callV  (q := (RX10, TX10, 13)) (As := [.int (nI T)]) dX10_tariff_129 lk_X10_87 rfl rfl hx8.1.1 rfl rfl (Nat.le_of_ble_eq_true rfl) (Nat.le_of_eq (Nat.zero_add _)) (Nat.le_of_eq (Nat.zero_add _)) (k_X10_accept (nI T) hx8 ?_)
      exact wa_iret dX10_tariff_132 rfl (by
      have so4 : ∀ a s j, mm_sh M3 a = some s → (∀ q, q < P9 → a ≠ pa q ∧ a ≠ pa q + 2) → mm_I (so_ (mm_sI (mm_sR (mm_sR (mm_sI (mm_new M3 (.inl 6)) (mm_z M3) 0 (mm_I M x 10)) (mm_z M3) 1 (some la)) (x + 2) T (some (mm_z M3))) x 8 (nI (T + 1))) x T pa P9) a j = mm_I (mm_sI (mm_sR (mm_sR (mm_sI (mm_new M3 (.inl 6)) (mm_z M3) 0 (mm_I M x 10)) (mm_z M3) 1 (some la)) (x + 2) T (some (mm_z M3))) x 8 (nI (T + 1))) a j := fun a s j ha hq => so_o P9 (fun q hq2 => ⟨fun z => (hq q hq2).1 z.1, fun z => (hq q hq2).2 z.1⟩)
      have n3 : nw_ (fun z => xt10_ x z ∨ ∃ q, q < P9 ∧ (z = pa q ∨ z = pa q + 2)) (fun z => z = x + 2) M3 (mm_sI (so_ (mm_sI (mm_sR (mm_sR (mm_sI (mm_new M3 (.inl 6)) (mm_z M3) 0 (mm_I M x 10)) (mm_z M3) 1 (some la)) (x + 2) T (some (mm_z M3))) x 8 (nI (T + 1))) x T pa P9) x 11 0) := by
        refine nw_I (md_sk_nw (nw_mono hn7 (fun a h => Or.inl (Or.inl h)) (fun _ h => h)) (so_sk _ _ _ _ _) (fun a s ha hX => ?_) (fun a => md_sk_L (so_sk _ _ _ _ _) a)) (Or.inl (Or.inl (Or.inl rfl)))
        funext j
        exact so4 a s j ha (fun q hq => ⟨fun e => hX (Or.inr ⟨q, hq, Or.inl e⟩), fun e => hX (Or.inr ⟨q, hq, Or.inr e⟩)⟩)
      have n0 : nw_ (fun z => xt10_ x z ∨ ∃ q, q < P9 ∧ (z = pa q ∨ z = pa q + 2)) (fun z => z = x + 2) M (mm_sI (so_ (mm_sI (mm_sR (mm_sR (mm_sI (mm_new M3 (.inl 6)) (mm_z M3) 0 (mm_I M x 10)) (mm_z M3) 1 (some la)) (x + 2) T (some (mm_z M3))) x 8 (nI (T + 1))) x T pa P9) x 11 0) := nw_tr (nw_mono f1 (fun _ h => Or.inl h) (fun _ h => h.elim)) n3
      have xs : ∀ a, (fun z => xt10_ x z ∨ ∃ q, q < P9 ∧ (z = pa q ∨ z = pa q + 2)) a → ∀ s, mm_sh M3 a = some s → s = .inl 10 ∨ s = .inl 5 ∨ s = .inl 9 ∨ s = .inr (0, 301) ∨ s = .inl 4 ∨ s = .inl 3 ∨ s = .inr (0, 30) := by
        intro a h s hs
        rcases h with h | ⟨q, hq, rfl | rfl⟩
        · rcases xt10_no hx3 h hs with e | e | e | e | e <;> simp [e]
        · rw [(hp3 q hq).1] at hs; cases hs; simp
        · rw [prt_s3 (hp3 q hq)] at hs; cases hs; simp
      have hzM : ∀ u, ¬ mm_sh M (mm_z M3) = some u := fun u hu => hfz u (f1 _ _ hu).1
      have tz : ∀ q, q < P9 → mm_z M3 ≠ pa q ∧ mm_z M3 ≠ pa q + 2 := fun q hq => ⟨fun e => hfz _ (by rw [e]; exact (hp3 q hq).1), fun e => hfz _ (by rw [e]; exact prt_s3 (hp3 q hq))⟩
      refine hO (mm_z M3) _ hT9 ⟨n0, ?_, fun j hj => ?_, hzM, hfl, ?_, ?_, ?_, (n3 _ _ hla).1, lsl_nw2 n3 hla (fun a h => ⟨fun e => ?_, fun e => ?_, fun e => ?_⟩) (fun a h => ⟨fun e => ?_, fun e => ?_, fun e => ?_⟩) (fun e => ?_) hls, ?_, mI_eq _ _ _ _, ?_, fun j j1 j2 j3 => ?_, ?_, fun q hq => ⟨?_, fun j hj => ?_, ?_, fun j hj => ?_⟩⟩
      · show mm_R (so_ (mm_sI (mm_sR (mm_sR (mm_sI (mm_new M3 (.inl 6)) (mm_z M3) 0 (mm_I M x 10)) (mm_z M3) 1 (some la)) (x + 2) T (some (mm_z M3))) x 8 (nI (T + 1))) x T pa P9) (x + 2) T = _
        rw [md_sk_R (so_sk _ _ _ _ _)]
        exact mR_eq _ _ _ _
      · show mm_R (so_ (mm_sI (mm_sR (mm_sR (mm_sI (mm_new M3 (.inl 6)) (mm_z M3) 0 (mm_I M x 10)) (mm_z M3) 1 (some la)) (x + 2) T (some (mm_z M3))) x 8 (nI (T + 1))) x T pa P9) (x + 2) j = _
        rw [md_sk_R (so_sk _ _ _ _ _)]
        refine (mR_ne _ _ _ _ _ hj).trans ?_
        rw [(hn5 _ _ (dsk_s1 hx3)).2.2.2 id, (f1 _ _ (dsk_s1 hx)).2.2.2 id]
      · show mm_sh (so_ (mm_sI (mm_sR (mm_sR (mm_sI (mm_new M3 (.inl 6)) (mm_z M3) 0 (mm_I M x 10)) (mm_z M3) 1 (some la)) (x + 2) T (some (mm_z M3))) x 8 (nI (T + 1))) x T pa P9) (mm_z M3) = _
        rw [md_sk_sh (so_sk _ _ _ _ _)]
        exact mm_sh_z M3 (.inl 6)
      · show mm_R (so_ (mm_sI (mm_sR (mm_sR (mm_sI (mm_new M3 (.inl 6)) (mm_z M3) 0 (mm_I M x 10)) (mm_z M3) 1 (some la)) (x + 2) T (some (mm_z M3))) x 8 (nI (T + 1))) x T pa P9) (mm_z M3) 1 = _
        rw [md_sk_R (so_sk _ _ _ _ _)]
        refine (mR_na _ _ _ _ _ _ (fun e => hfz _ (by rw [e]; exact dsk_s1 hx3))).trans ?_
        exact mR_eq _ _ _ _
      · rw [mI_na _ _ _ _ _ _ (Ne.symm hxz), so_o P9 (fun q hq => ⟨fun z => (tz q hq).1 z.1, fun z => (tz q hq).2 z.1⟩), mI_na _ _ _ _ _ _ (Ne.symm hxz)]
        exact mI_eq _ _ _ _
      · rcases xs a h _ e with e9 | e9 | e9 | e9 | e9 | e9 | e9 <;> cases e9
      · rcases xs a h _ e with e9 | e9 | e9 | e9 | e9 | e9 | e9 <;> cases e9
      · rcases xs a h _ e with e9 | e9 | e9 | e9 | e9 | e9 | e9 <;> cases e9
      · rw [h, dsk_s1 hx3] at e; cases e
      · rw [h, dsk_s1 hx3] at e; cases e
      · rw [h, dsk_s1 hx3] at e; cases e
      · rw [e, dsk_s1 hx3] at hla; cases hla
      · rw [mI_ne _ _ _ _ _ (by decide), x8]; exact mI_eq _ _ _ _
      · rw [mI_ne _ _ _ _ _ (by decide), x8, i7 12 (by decide)]; exact f3
      · rw [mI_ne _ _ _ _ _ j2, x8, i7 j j1]; exact f4 j j2 j3
      · rw [mI_na _ _ _ _ _ _ (by omega), so4 (x + 4) _ 1 (dsk_s3 hx3) (fun q hq => ⟨fun e => (by have h := (hp3 q hq).1; rw [← e, dsk_s3 hx3] at h; cases h), fun e => (by have h := prt_s3 (hp3 q hq); rw [← e, dsk_s3 hx3] at h; cases h)⟩), (hn7 _ _ (dsk_s3 hx3)).2.1 (fun e => by omega)]
        exact f5
      · rw [mI_na _ _ _ _ _ _ (Ne.symm (dsk_pa hx3 (hp3 q hq)).1), so_5 hd hq P9 (Nat.le_refl _), if_pos hq]
      · rw [mI_na _ _ _ _ _ _ (Ne.symm (dsk_pa hx3 (hp3 q hq)).1), so_j hd hq (Nat.le_refl _) hj, (p7 q hq).1]
      · rw [mI_na _ _ _ _ _ _ (Ne.symm (dsk_pa hx3 (hp3 q hq)).2.1), so_2 hd hq P9 (Nat.le_refl _), if_pos hq, i7 10 (by decide), g10, (p7 q hq).1]
      · rw [mI_na _ _ _ _ _ _ (Ne.symm (dsk_pa hx3 (hp3 q hq)).2.1), so_2j hd hq (Nat.le_refl _) hj, (p7 q hq).2])
    · have hT9 : T = 30 := by
        have := ni_nlt (b := 30) hF78 (by omega) (by decide)
        omega
      refine wa_aload_n dX10_tariff_81 rfl rfl ?_
      refine wa_iconst (v := 3) dX10_tariff_82 (by decide) ?_
      refine wa_callV  (q := (RX10, TX10, 13)) (As := [.int 3]) dX10_tariff_83 lk_X10_76 rfl rfl hx3.1.1 rfl rfl (Nat.le_of_ble_eq_true rfl) (Nat.le_of_eq (Nat.zero_add _)) (Nat.le_of_eq (Nat.zero_add _)) (k_X10_refuse 3 hx3 ?_)
      exact wa_iret dX10_tariff_86 rfl (hR hT9)
  have hn00 := hb.2.2.1
  have hnn := hb.2.2.2.1
  refine wa_iload_n dX10_tariff_0 rfl ?_
  refine wa_if_lt (tgt := 15) dX10_tariff_1 (by decide) (fun hT1 => absurd hT1 (nI_pos (by omega))) (fun hF1 => ?_)
  refine wa_iload_n dX10_tariff_4 rfl ?_
  refine wa_aload_n dX10_tariff_5 rfl rfl ?_
  refine wa_getR (q := (RX10, TX10, 13)) (ci := 10) (k := 3) dX10_tariff_6 rfl (by decide) wf_X10_30 hx.1.1 rfl (dsk_r3 hx) ?_
  refine wa_getI (q := (RX5, TX5, 2)) (ci := 5) (k := 1) dX10_tariff_9 rfl (by decide) wf_X10_90 hx.2.1.1 rfl ?_
  rw [hb.2.1]
  refine wa_icmp_le (tgt := 21) dX10_tariff_12 (by decide) (fun hT12 => ?_) (fun hF12 => absurd (nI_le hnn (by omega)) hF12)
  refine wa_aload_n dX10_tariff_21 rfl rfl ?_
  refine wa_getR (q := (RX10, TX10, 13)) (ci := 10) (k := 4) dX10_tariff_22 rfl (by decide) wf_X10_37 hx.1.1 rfl (dsk_r4 hx) ?_
  refine wa_aload_n dX10_tariff_25 rfl rfl ?_
  refine wa_getR (q := (RX10, TX10, 13)) (ci := 10) (k := 3) dX10_tariff_26 rfl (by decide) wf_X10_30 hx.1.1 rfl (dsk_r3 hx) ?_
  refine wa_iload_n dX10_tariff_29 rfl ?_
  refine wa_callV  (q := (RX9, TX9, 4)) (As := [.ref (x + 4), .int (nI n)]) dX10_tariff_30 lk_X10_96 rfl rfl hx.2.2.1.1 rfl rfl (Nat.le_of_ble_eq_true rfl) (Nat.le_of_eq (Nat.zero_add _)) (Nat.le_of_eq (Nat.zero_add _)) (k_X9_cut f hcs hsf hx.2.2.1 hb (by omega) (fun m P M1 hst hP0 hm3 hsk hI1 => ?_))
  have hx1 := md_sk_dsk hsk hx
  have hn01 : nw_ (xt10_ x) (fun _ => False) M M1 := md_sk_nw (nw_rf _ _ _) hsk (fun a s ha hX => funext (fun j => hI1 a j (fun e => hX (Or.inr (Or.inr (Or.inl (by omega))))) (fun e => hX (Or.inr (Or.inr (Or.inl (by omega))))))) (fun a => md_sk_L hsk a)
  have hc1 : rc_ (mm_I M1 (x + 6 + 1)) (mm_I M1 (x + 6 + 2)) (mm_I M1 (x + 6 + 3)) M1 (x + 10) (x + 6) := ⟨dsk_s5 hx1, hx1.2.2.2.1, hx1.2.2.1, rfl, rfl, rfl⟩
  refine wa_aload_n dX10_tariff_33 rfl rfl ?_
  refine wa_getR (q := (RX10, TX10, 13)) (ci := 10) (k := 5) dX10_tariff_34 rfl (by decide) wf_X10_46 hx1.1.1 rfl (dsk_r5 hx1) ?_
  refine wa_callV (kc' := 1) (ks' := 2) (q := (RX4, TX4, 6)) (As := []) dX10_tariff_37 lk_X10_100 rfl rfl (dsk_s5 hx1) rfl rfl (Nat.le_of_ble_eq_true rfl) (by decide) (by decide) (kr_read (m := m) hm3 hst.2.2 hc1 (fun q j M2 e1 hn2 h0 h1 => ?_) (fun ls la M2 e1 hn2 h0 hla hls hfr => ?_))
  · have hn02 : nw_ (xt10_ x) (fun _ => False) M M2 := nw_tr hn01 (nw_mono hn2 (fun a h => Or.inr (Or.inr (Or.inr h))) (fun _ h => h))
    have hx2 := dsk_nw hn02 ⟨id, id, id, id, id⟩ hx
    have xi2 : ∀ j, mm_I M2 x j = mm_I M x j := fun j => by rw [(hn2 _ _ hx1.1.1).2.1 (fun e => by omega)]; exact hI1 x j (by omega) (by omega)
    refine wa_astore_n dX10_tariff_40 (by decide) rfl rfl rfl ?_
    refine wa_aload_n dX10_tariff_41 rfl rfl ?_
    refine wa_getR (q := (RX10, TX10, 13)) (ci := 10) (k := 3) dX10_tariff_42 rfl (by decide) wf_X10_30 hx2.1.1 rfl (dsk_r3 hx2) ?_
    refine wa_callV  (q := (RX5, TX5, 2)) (As := []) dX10_tariff_45 lk_X10_104 rfl rfl hx2.2.1.1 rfl rfl (Nat.le_of_ble_eq_true rfl) (Nat.le_of_eq (Nat.zero_add _)) (Nat.le_of_eq (Nat.zero_add _)) (k_X5_clear hx2.2.1 ?_)
    refine wa_aload_n dX10_tariff_48 rfl rfl ?_
    refine wa_aload_n dX10_tariff_49 rfl rfl ?_
    refine wa_getR (q := (RX10, TX10, 13)) (ci := 10) (k := 5) dX10_tariff_50 rfl (by decide) wf_X10_46 hx2.1.1 rfl (dsk_r5 hx2) ?_
    refine wa_getI (q := (RX4, TX4, 6)) (ci := 4) (k := 0) dX10_tariff_53 rfl (by decide) wf_X10_107 (dsk_s5 hx2) rfl ?_
    rw [mI_na _ _ _ _ _ _ (by omega), h0]
    refine wa_put (q := (RX10, TX10, 13)) (ci := 10) (k := 12) dX10_tariff_56 rfl (by decide) wf_X10_73 rfl hx2.1.1 rfl ?_
    rw [mm_putI]
    refine wa_aload_n dX10_tariff_59 rfl rfl ?_
    refine wa_ifnonnullN dX10_tariff_60 ?_
    have hF3 : taf_F M (mm_sI (mm_sI M2 (x + 4) 1 0) x 12 q) x (mm_I M x 11) q := by
      refine ⟨nw_I (nw_I hn02 (Or.inl (Or.inr (Or.inl rfl)))) (Or.inl (Or.inl rfl)), ?_, mI_eq _ _ _ _, fun j j1 j2 => ?_, ?_⟩
      · rw [mI_ne _ _ _ _ _ (by decide), mI_na _ _ _ _ _ _ (by omega)]; exact xi2 11
      · rw [mI_ne _ _ _ _ _ j2, mI_na _ _ _ _ _ _ (by omega)]; exact xi2 j
      · rw [mI_na _ _ _ _ _ _ (by omega)]; exact mI_eq _ _ _ _
    refine wa_aload_n dX10_tariff_63 rfl rfl ?_
    refine wa_iconst (v := 4) dX10_tariff_64 (by decide) ?_
    refine wa_callV  (q := (RX10, TX10, 13)) (As := [.int 4]) dX10_tariff_65 lk_X10_76 rfl rfl hx2.1.1 rfl rfl (Nat.le_of_ble_eq_true rfl) (Nat.le_of_eq (Nat.zero_add _)) (Nat.le_of_eq (Nat.zero_add _)) (k_X10_refuse 4 hx2 ?_)
    exact wa_iret dX10_tariff_68 rfl (by
      refine hF m _ _ _ P q j _ hst hP0 e1 ⟨nw_I hF3.1 (Or.inl (Or.inl rfl)), mI_eq _ _ _ _, (mI_ne _ _ _ _ _ (by decide)).trans hF3.2.2.1, fun j j1 j2 => (mI_ne _ _ _ _ _ j1).trans (hF3.2.2.2.1 j j1 j2), (mI_na _ _ _ _ _ _ (by omega)).trans hF3.2.2.2.2⟩ ?_
      rw [mI_na _ _ _ _ _ _ (by omega), mI_na _ _ _ _ _ _ (by omega), mI_na _ _ _ _ _ _ (by omega)]
      exact h1.2)
  · have hn02 : nw_ (xt10_ x) (fun _ => False) M M2 := nw_tr hn01 (nw_mono hn2 (fun a h => Or.inr (Or.inr (Or.inr h))) (fun _ h => h))
    have hx2 := dsk_nw hn02 ⟨id, id, id, id, id⟩ hx
    have xi2 : ∀ j, mm_I M2 x j = mm_I M x j := fun j => by rw [(hn2 _ _ hx1.1.1).2.1 (fun e => by omega)]; exact hI1 x j (by omega) (by omega)
    have hfl : ∀ u, ¬ mm_sh M la = some u := fun u hu => hfr u (nw_sh hn01 hu)
    refine wa_astore_n dX10_tariff_40 (by decide) rfl rfl rfl ?_
    refine wa_aload_n dX10_tariff_41 rfl rfl ?_
    refine wa_getR (q := (RX10, TX10, 13)) (ci := 10) (k := 3) dX10_tariff_42 rfl (by decide) wf_X10_30 hx2.1.1 rfl (dsk_r3 hx2) ?_
    refine wa_callV  (q := (RX5, TX5, 2)) (As := []) dX10_tariff_45 lk_X10_104 rfl rfl hx2.2.1.1 rfl rfl (Nat.le_of_ble_eq_true rfl) (Nat.le_of_eq (Nat.zero_add _)) (Nat.le_of_eq (Nat.zero_add _)) (k_X5_clear hx2.2.1 ?_)
    refine wa_aload_n dX10_tariff_48 rfl rfl ?_
    refine wa_aload_n dX10_tariff_49 rfl rfl ?_
    refine wa_getR (q := (RX10, TX10, 13)) (ci := 10) (k := 5) dX10_tariff_50 rfl (by decide) wf_X10_46 hx2.1.1 rfl (dsk_r5 hx2) ?_
    refine wa_getI (q := (RX4, TX4, 6)) (ci := 4) (k := 0) dX10_tariff_53 rfl (by decide) wf_X10_107 (dsk_s5 hx2) rfl ?_
    rw [mI_na _ _ _ _ _ _ (by omega), h0]
    refine wa_put (q := (RX10, TX10, 13)) (ci := 10) (k := 12) dX10_tariff_56 rfl (by decide) wf_X10_73 rfl hx2.1.1 rfl ?_
    rw [mm_putI]
    refine wa_aload_n dX10_tariff_59 rfl rfl ?_
    refine wa_ifnonnullR (tgt := 69) dX10_tariff_60 (by decide) ?_
    have hF3 : taf_F M (mm_sI (mm_sI M2 (x + 4) 1 0) x 12 0) x (mm_I M x 11) 0 := by
      refine ⟨nw_I (nw_I hn02 (Or.inl (Or.inr (Or.inl rfl)))) (Or.inl (Or.inl rfl)), ?_, mI_eq _ _ _ _, fun j j1 j2 => ?_, ?_⟩
      · rw [mI_ne _ _ _ _ _ (by decide), mI_na _ _ _ _ _ _ (by omega)]; exact xi2 11
      · rw [mI_ne _ _ _ _ _ j2, mI_na _ _ _ _ _ _ (by omega)]; exact xi2 j
      · rw [mI_na _ _ _ _ _ _ (by omega)]; exact mI_eq _ _ _ _
    have hla3 : mm_sh (mm_sI (mm_sI M2 (x + 4) 1 0) x 12 0) la = some (.inr (4, 12)) := hla
    have hn23 : nw_ (xt10_ x) (fun _ => False) M2 (mm_sI (mm_sI M2 (x + 4) 1 0) x 12 0) := nw_I (nw_I (nw_rf _ _ _) (Or.inl (Or.inr (Or.inl rfl)))) (Or.inl (Or.inl rfl))
    have hls3 := lsl_nw2 hn23 hla (fun a h => ⟨fun e => (by rcases xt10_no hx2 h e with z | z | z | z | z <;> cases z), fun e => (by rcases xt10_no hx2 h e with z | z | z | z | z <;> cases z), fun e => (by rcases xt10_no hx2 h e with z | z | z | z | z <;> cases z)⟩) (fun _ h => h.elim) id hls
    refine s69 ls la _ hF3 hla3 hls3 hfl (fun hT9 => hR m _ _ _ P ls _ hst hP0 e1 hT9 ?_) (fun ta M' hT9 hF9 => hO m _ _ _ P ls ta la M' hst hP0 e1 hT9 hF9)
    exact ⟨nw_I hF3.1 (Or.inl (Or.inl rfl)), mI_eq _ _ _ _, (mI_ne _ _ _ _ _ (by decide)).trans hF3.2.2.1, fun j j1 j2 => (mI_ne _ _ _ _ _ j1).trans (hF3.2.2.2.1 j j1 j2), (mI_na _ _ _ _ _ _ (by omega)).trans hF3.2.2.2.2⟩

theorem k_X10_tariffB {G : mm_G} {d : Nat} {Q : Option Value → mm_M → Prop} {M : mm_M} {x : Nat} (w : Int32) (n0 : Nat) (hx : dsk_ M x) (hn : mm_I M (x + 4) 1 = nI n0) (hw : w < 0 ∨ nI n0 < w) (hQ : Q (some (.int (-1))) (mm_sI M x 11 2)) : ma_ G jX10_tariff (d + 1) 0 0 [.ref x, .int w] M Q := by
  refine ma_of [some (.ref x), some (.int w), none] (by decide) rfl (Nat.le_of_ble_eq_true rfl) ?_
  refine wa_iload_n dX10_tariff_0 rfl ?_
  refine wa_if_lt (tgt := 15) dX10_tariff_1 (by decide) (fun hT1 => ?_) (fun hF1 => ?_)
  · refine wa_aload_n dX10_tariff_15 rfl rfl ?_
    refine wa_iconst (v := 2) dX10_tariff_16 (by decide) ?_
    refine wa_callV  (q := (RX10, TX10, 13)) (As := [.int 2]) dX10_tariff_17 lk_X10_76 rfl rfl hx.1.1 rfl rfl (Nat.le_of_ble_eq_true rfl) (Nat.le_of_eq (Nat.zero_add _)) (Nat.le_of_eq (Nat.zero_add _)) (k_X10_refuse 2 hx ?_)
    exact wa_iret dX10_tariff_20 rfl (hQ)
  · refine wa_iload_n dX10_tariff_4 rfl ?_
    refine wa_aload_n dX10_tariff_5 rfl rfl ?_
    refine wa_getR (q := (RX10, TX10, 13)) (ci := 10) (k := 3) dX10_tariff_6 rfl (by decide) wf_X10_30 hx.1.1 rfl (dsk_r3 hx) ?_
    refine wa_getI (q := (RX5, TX5, 2)) (ci := 5) (k := 1) dX10_tariff_9 rfl (by decide) wf_X10_90 hx.2.1.1 rfl ?_
    rw [hn]
    refine wa_icmp_le (tgt := 21) dX10_tariff_12 (by decide) (fun hT12 => ?_) (fun hF12 => ?_)
    · exact absurd hT12 (Int32.not_le.mpr (hw.resolve_left hF1))
    · refine wa_aload_n dX10_tariff_15 rfl rfl ?_
      refine wa_iconst (v := 2) dX10_tariff_16 (by decide) ?_
      refine wa_callV  (q := (RX10, TX10, 13)) (As := [.int 2]) dX10_tariff_17 lk_X10_76 rfl rfl hx.1.1 rfl rfl (Nat.le_of_ble_eq_true rfl) (Nat.le_of_eq (Nat.zero_add _)) (Nat.le_of_eq (Nat.zero_add _)) (k_X10_refuse 2 hx ?_)
      exact wa_iret dX10_tariff_20 rfl (hQ)
