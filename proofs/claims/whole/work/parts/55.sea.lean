/-! the class seals a paper -/
theorem pb_I {M : mm_M} {p a : Nat} (h : a ≠ p + 1) : ∀ (n b j : Nat), mm_I (pb_ M p a n) b j = if b = p + 1 ∧ j < n then mm_I M (p + 1) j + -mm_I M a j else mm_I M b j
  | 0, b, j => by rw [if_neg (by omega)]; rfl
  | n + 1, b, j => by
    show mm_I (mm_sI (pb_ M p a n) (p + 1) n (mm_I (pb_ M p a n) (p + 1) n + -mm_I M a n)) b j = _
    have e1 := pb_I (M := M) h n (p + 1) n
    rw [if_neg (by omega)] at e1
    rw [mm_I_sI, e1, pb_I h n b j]
    by_cases e : b = p + 1 ∧ j = n
    · rw [if_pos e, if_pos ⟨e.1, by omega⟩, e.2]
    · rw [if_neg e]
      by_cases e2 : b = p + 1 ∧ j < n
      · rw [if_pos e2, if_pos ⟨e2.1, by omega⟩]
      · rw [if_neg e2, if_neg (by omega)]
theorem nI_an {a b : Nat} (h : b ≤ a) : nI a + -nI b = nI (a - b) := by
  rw [← Int32.sub_eq_add_neg, pk_sub h]
def slf_F (M M' : mm_M) (x : Nat) (tr : Int32) : Prop := nw_ (fun z => z = x ∨ z = x + 11 ∨ z = x + 12) (fun z => z = x + 11) M M' ∧ mm_R M' (x + 11) 0 = some (x + 12) ∧ mm_I M' x 11 = tr ∧ ∀ j, j ≠ 11 → mm_I M' x j = mm_I M x j
def seal_F (M M' : mm_M) (x N p a tk : Nat) (k v s pI h : Int32) (fee t : Nat) (n st : Nat → Nat) : Prop :=
  nw_ (fun z => z = x ∨ z = x + 11 ∨ z = x + 12 ∨ z = p ∨ z = p + 1) (fun z => z = x + 11 ∨ z = x + 3) M M' ∧ mm_R M' (x + 11) 0 = some (x + 12) ∧ mm_R M' (x + 3) N = some a ∧ (∀ j, j ≠ N → mm_R M' (x + 3) j = mm_R M (x + 3) j) ∧ (∀ u, ¬ mm_sh M a = some u) ∧ (∀ u, ¬ mm_sh M tk = some u) ∧ pf_ M' a k v s pI h ∧ mm_I M' a 5 = mm_I M x 10 ∧ mm_I M' a 6 = nI fee ∧ mm_I M' a 7 = nI t ∧ mm_R M' a 8 = some tk ∧ mm_sh M' tk = some (.inr (0, 5)) ∧ (∀ i, i < 5 → mm_I M' tk i = nI (n i)) ∧ mm_I M' p 6 = mm_I M p 6 + nI fee ∧ mm_I M' p 7 = mm_I M p 7 + 1 ∧ (∀ j, j ≠ 6 → j ≠ 7 → mm_I M' p j = mm_I M p j) ∧ (∀ i, i < 5 → mm_I M' (p + 1) i = nI (st i - n i)) ∧ mm_I M' x 9 = nI (N + 1) ∧ mm_I M' x 11 = 0 ∧ ∀ j, j ≠ 9 → j ≠ 11 → mm_I M' x j = mm_I M x j
theorem nb_of {x : Int32} {lo hi : Nat} (M : Int32) (hM : M.toInt = hi) (hh : hi < 2 ^ 31) (h1 : nI lo ≤ x) (hlo : lo < 2 ^ 31) (h2 : x ≤ M) : nb_ x lo hi := by
  obtain ⟨j, hj, rfl⟩ := nI_of2 (M := M) (n := hi) hM (Int32.not_lt.mpr (Int32.le_trans (nI_pos' hlo) h1)) h2
  exact ⟨j, ni_le h1 hlo (by omega), hj, rfl⟩
theorem nb_w {x : Int32} {lo hi lo' hi' : Nat} (h : nb_ x lo hi) (h1 : lo' ≤ lo) (h2 : hi ≤ hi') : nb_ x lo' hi' := by
  obtain ⟨k, k1, k2, e⟩ := h
  exact ⟨k, by omega, by omega, e⟩
theorem ms_nb {v s p h : Int32} (hv : nb_ v 0 9999) (hs : nb_ s 0 9999) (hp : nb_ p 0 9999) (hh : nb_ h 0 9999) : ∀ nm, nb_ (ms_ v s p h nm) 0 9999 := by
  intro nm
  unfold ms_
  repeat' split
  · exact hv
  · exact hs
  · exact hp
  · exact hh
  · exact ⟨1, by decide, by decide, rfl⟩

theorem k_X10_seal {G : mm_G} {d : Nat} {Q : Option Value → mm_M → Prop} {M : mm_M} {x : Nat} (p : Int32) (k : Int32) (v : Int32) (s : Int32) (P T : Nat) (pa : Nat → Nat) (hx : dsk_ M x) (hP : dP_ M x P T pa) (ta la : Nat → Nat) (tl : Nat → List ps_L) (hT : dTL_ M x T ta la tl) (hv : vtl_ T tl) (N : Nat) (hN : mm_I M x 9 = nI N) (hN2 : N ≤ 200) (w0 s0 : Nat) (hG0 : G.2.2.2.1 0 = .ref w0) (hG1 : G.2.2.2.1 1 = .ref s0) (hcx : cx_ M (x + 11) w0 s0) (st : Nat → Nat → Nat) (hst : ∀ q, q < P → cst_ M (pa q + 1) (st q)) (hstb : ∀ q i, st q i ≤ 10000) (hpx : ∀ q, q < P → pa q + 1 ≠ x + 12) (hsb : ∀ q, q < P → nb_ (mm_I M (pa q) 7) 0 9999)
    (h0 : p < 0 ∨ nI P ≤ p → Q (some (.int (-1))) (mm_sI M x 11 1)) (h2 : ∀ q, p = nI q → q < P → ¬ (0 ≤ k ∧ k ≤ 9 ∧ 0 ≤ v ∧ v ≤ 9999 ∧ 1 ≤ s ∧ s ≤ 99) → Q (some (.int (-1))) (mm_sI M x 11 2))
    (h5 : ∀ q, p = nI q → q < P → 0 ≤ k → k ≤ 9 → 0 ≤ v → v ≤ 9999 → 1 ≤ s → s ≤ 99 → (0 < T → pc_ M (pa q) T (mm_I M x 10) 0 = -2) → Q (some (.int (-1))) (mm_sI M x 11 5))
    (h1 : ∀ q t, p = nI q → q < P → 0 ≤ k → k ≤ 9 → 0 ≤ v → v ≤ 9999 → 1 ≤ s → s ≤ 99 → t < T → (∀ j, j ≤ t → ¬ pc_ M (pa q) T (mm_I M x 10) j = -2) → (t + 1 < T → pc_ M (pa q) T (mm_I M x 10) (t + 1) = -2) →
      ((fq_ (-2) k v s (nI q) (mm_I M (pa q) 7) (tl t)) = -2 → ∀ M' : mm_M, slf_F M M' x 5 → Q (some (.int (-1))) M') ∧
      (∀ fee, fee ≤ 5000 → (fq_ (-2) k v s (nI q) (mm_I M (pa q) 7) (tl t)) = nI fee → (fq_ (-1) k v s (nI q) (mm_I M (pa q) 7) (tl t)) = nI fee → ((∀ n, ¬ fz_ (st q) fee n) → ∀ M' : mm_M, slf_F M M' x 6 → Q (some (.int (-1))) M') ∧
        ∀ n, opt_ (st q) fee n → (N = 200 → ∀ M' : mm_M, slf_F M M' x 3 → Q (some (.int (-1))) M') ∧
          (N < 200 → ∀ (a tk : Nat) (M' : mm_M), seal_F M M' x N (pa q) a tk k v s (nI q) (mm_I M (pa q) 7) fee t n (st q) → Q (some (.int (nI N))) M'))) : ma_ G jX10_seal (d + 9) 13 69 [.ref x, .int p, .int k, .int v, .int s] M Q := by
  refine ma_of [some (.ref x), some (.int p), some (.int k), some (.int v), some (.int s), none, none, none, none, none, none] (by decide) rfl (Nat.le_of_ble_eq_true rfl) ?_
  have s43n : ∀ q, q < P → Q (some (.int (-1))) (mm_sI M x 11 5) → wa_ 0 G jX10_seal (d + 9) 13 69 Q 13 69 M 43 [some (.ref x), some (.int (nI q)), some (.int k), some (.int v), some (.int s), some (.ref (pa q)), none, none, none, none, none] [.int (-2)] := by
    intro q hq hQ
    have hpq := (hP.2.2.2 q hq).2.1
    refine wa_istore dX10_seal_43 (by decide) rfl rfl ?_
    refine wa_aload_n dX10_seal_45 rfl rfl ?_
    refine wa_iload dX10_seal_46 rfl ?_
    refine wa_callV  (q := (RX10, TX10, 13)) (As := [.int (-2)]) dX10_seal_48 lk_X10_153 rfl rfl hx.1.1 rfl rfl (Nat.le_of_ble_eq_true rfl) (Nat.le_of_eq (Nat.zero_add _)) (Nat.le_of_eq (Nat.zero_add _)) (k_X10_tariffAt (-2) T ta la hx (dTL_dT hT) (fun t et ht => absurd (show (-2 : Int32) < 0 from by decide) (by rw [et]; exact nI_pos (by have := hT.2.1; omega))) (fun hAt => ?_))
    refine wa_astore dX10_seal_51 (by decide) rfl rfl rfl ?_
    refine wa_aload dX10_seal_53 rfl rfl ?_
    refine wa_ifnonnullN dX10_seal_55 ?_
    refine wa_aload_n dX10_seal_58 rfl rfl ?_
    refine wa_iconst (v := 5) dX10_seal_59 (by decide) ?_
    refine wa_callV  (q := (RX10, TX10, 13)) (As := [.int 5]) dX10_seal_60 lk_X10_76 rfl rfl hx.1.1 rfl rfl (Nat.le_of_ble_eq_true rfl) (Nat.le_of_eq (Nat.zero_add _)) (Nat.le_of_eq (Nat.zero_add _)) (k_X10_refuse 5 hx ?_)
    exact wa_iret dX10_seal_63 rfl (hQ)
  have s121 : ∀ q t fee, q < P → t < T → fee ≤ 5000 → ∀ (n : Nat → Nat) (tk : Nat) (M3 : mm_M), opt_ (st q) fee n → nw_ (fun z => z = x + 11 ∨ z = x + 12) (fun z => z = x + 11) M M3 → mm_R M3 (x + 11) 0 = some (x + 12) → pf_ M3 (mm_z M) k v s (nI q) (mm_I M (pa q) 7) → (∀ u, ¬ mm_sh M (mm_z M) = some u) → mm_sh M3 tk = some (.inr (0, 5)) → (∀ u, ¬ mm_sh M tk = some u) → (∀ i, i < 5 → mm_I M3 tk i = nI (n i)) → (N = 200 → ∀ M' : mm_M, slf_F M M' x 3 → Q (some (.int (-1))) M') → (N < 200 → ∀ (a tk : Nat) (M' : mm_M), seal_F M M' x N (pa q) a tk k v s (nI q) (mm_I M (pa q) 7) fee t n (st q) → Q (some (.int (nI N))) M') → wa_ 0 G jX10_seal (d + 9) 13 69 Q 0 0 M3 121 [some (.ref x), some (.int (nI q)), some (.int k), some (.int v), some (.int s), some (.ref (pa q)), some (.int (nI t)), some (.ref (ta t)), some (.ref (mm_z M)), some (.int (nI fee)), some (.ref tk)] [] := by
    intro q t fee hq ht hf n tk M3 hopt n3 r3 pf3 hfz htk hftk hin hR hO
    have hp := (hP.2.2.2 q hq).2.1
    have hxp := dsk_pa hx hp
    have hsA := hst q hq
    have hx11 : ∀ z s, mm_sh M z = some s → s ≠ .inl 0 → z ≠ x + 12 → ¬ (z = x + 11 ∨ z = x + 12) := fun z s hz h1 h2 e => by
      rcases e with e | e
      · rw [e, dsk_s6 hx] at hz; cases hz; exact h1 rfl
      · exact h2 e
    have xI3 : ∀ j, mm_I M3 x j = mm_I M x j := fun j => by rw [(n3 _ _ hx.1.1).2.1 (by omega)]
    have pI3 : mm_I M3 (pa q) = mm_I M (pa q) := (n3 _ _ hp.1).2.1 (hx11 _ _ hp.1 (by decide) (fun e => by have h := hp.1; rw [e, hx.2.2.2.2.2] at h; cases h))
    have sI3 : mm_I M3 (pa q + 1) = mm_I M (pa q + 1) := (n3 _ _ (prt_s2 hp)).2.1 (hx11 _ _ (prt_s2 hp) (by decide) (hpx q hq))
    have hxd3 : dsk_ M3 x := by
      obtain ⟨⟨d1, d2, d3, d4, d5, d6, d7, d8, d9, d10, d11, d12, d13, d14, d15⟩, ⟨t1, t2, t3⟩, kk, r1, c1, c2⟩ := hx
      have e0 := (n3 _ _ d1).2.2.2 (by omega)
      refine ⟨⟨(n3 _ _ d1).1, ?_, (n3 _ _ d3).1, ?_, (n3 _ _ d5).1, ?_, (n3 _ _ d7).1, ?_, (n3 _ _ d9).1, ?_, (n3 _ _ d11).1, ?_, (n3 _ _ d13).1, ?_, (n3 _ _ d15).1⟩, ⟨(n3 _ _ t1).1, by rw [(n3 _ _ t1).2.2.2 (by omega)]; exact t2, (n3 _ _ t3).1⟩, tok_nw n3 (by omega) kk, by rw [(n3 _ _ d13).2.2.2 (by omega)]; exact r1, r3, (n3 _ _ c2).1⟩ <;> (rw [e0]; assumption)
    have hp3 : prt_ M3 (pa q) := prt_nw n3 (fun e => by have h := hp.1; rw [e, dsk_s6 hx] at h; cases h) hp
    have hz3 : ∀ z s, mm_sh M z = some s → z ≠ mm_z M ∧ z ≠ tk := fun z s hz => ⟨fun e => hfz s (by rw [← e]; exact hz), fun e => hftk s (by rw [← e]; exact hz)⟩
    have hzt : mm_z M ≠ tk := fun e => by have h := pf3.1; rw [e, htk] at h; cases h
    refine wa_aload dX10_seal_121 rfl rfl ?_
    refine wa_ifnonnullR (tgt := 133) dX10_seal_123 (by decide) ?_
    refine wa_aload_n dX10_seal_133 rfl rfl ?_
    refine wa_getI (q := (RX10, TX10, 13)) (ci := 10) (k := 9) dX10_seal_134 rfl (by decide) wf_X10_64 hxd3.1.1 rfl ?_
    refine wa_aload_n dX10_seal_137 rfl rfl ?_
    refine wa_getR (q := (RX10, TX10, 13)) (ci := 10) (k := 2) dX10_seal_138 rfl (by decide) wf_X10_23 hxd3.1.1 rfl (dsk_r2 hxd3) ?_
    refine wa_alen dX10_seal_141 (dsk_s2 hxd3) ?_
    rw [xI3, hN]
    refine wa_icmp_lt (tgt := 151) dX10_seal_142 (by decide) (fun hT142 => ?_) (fun hF142 => ?_)
    · have hN9 : N < 200 := ni_lt (b := 200) hT142 (by omega) (by decide)
      refine wa_aload dX10_seal_151 rfl rfl ?_
      refine wa_aload_n dX10_seal_153 rfl rfl ?_
      refine wa_getI (q := (RX10, TX10, 13)) (ci := 10) (k := 10) dX10_seal_154 rfl (by decide) wf_X10_67 hxd3.1.1 rfl ?_
      rw [xI3]
      refine wa_iload dX10_seal_157 rfl ?_
      refine wa_iload dX10_seal_159 rfl ?_
      refine wa_aload dX10_seal_161 rfl rfl ?_
      refine wa_callV  (q := (RX2, TX2, 9)) (As := [.int (mm_I M x 10), .int (nI fee), .int (nI t), .ref tk]) dX10_seal_163 lk_X10_178 rfl rfl pf3.1 rfl rfl (Nat.le_of_ble_eq_true rfl) (Nat.le_of_eq (Nat.zero_add _)) (Nat.le_of_eq (Nat.zero_add _)) (k_X2_charge (mm_I M x 10) (nI fee) (nI t) tk pf3.1 ?_)
      obtain ⟨M4, e4⟩ : ∃ M4, M4 = (mm_sR (mm_sI (mm_sI (mm_sI M3 (mm_z M) 5 (mm_I M x 10)) (mm_z M) 6 (nI fee)) (mm_z M) 7 (nI t)) (mm_z M) 8 (some tk)) := ⟨_, rfl⟩
      have n4 : nw_ (fun z => z = mm_z M) (fun z => z = mm_z M) M3 M4 := by rw [e4]; exact nw_R (nw_I (nw_I (nw_I (nw_rf _ _ _) (Or.inl rfl)) (Or.inl rfl)) (Or.inl rfl)) (Or.inl rfl)
      have f4 : pf_ M4 (mm_z M) k v s (nI q) (mm_I M (pa q) 7) ∧ mm_I M4 (mm_z M) 5 = mm_I M x 10 ∧ mm_I M4 (mm_z M) 6 = nI fee ∧ mm_I M4 (mm_z M) 7 = nI t ∧ mm_R M4 (mm_z M) 8 = some tk := by
        rw [e4]
        obtain ⟨b0, b1, b2, b3, b4, b5⟩ := pf3
        refine ⟨⟨b0, ?_, ?_, ?_, ?_, ?_⟩, ?_, ?_, ?_, mR_eq _ _ _ _⟩
        · exact (mI_ne _ _ _ _ _ (by decide)).trans ((mI_ne _ _ _ _ _ (by decide)).trans ((mI_ne _ _ _ _ _ (by decide)).trans b1))
        · exact (mI_ne _ _ _ _ _ (by decide)).trans ((mI_ne _ _ _ _ _ (by decide)).trans ((mI_ne _ _ _ _ _ (by decide)).trans b2))
        · exact (mI_ne _ _ _ _ _ (by decide)).trans ((mI_ne _ _ _ _ _ (by decide)).trans ((mI_ne _ _ _ _ _ (by decide)).trans b3))
        · exact (mI_ne _ _ _ _ _ (by decide)).trans ((mI_ne _ _ _ _ _ (by decide)).trans ((mI_ne _ _ _ _ _ (by decide)).trans b4))
        · exact (mI_ne _ _ _ _ _ (by decide)).trans ((mI_ne _ _ _ _ _ (by decide)).trans ((mI_ne _ _ _ _ _ (by decide)).trans b5))
        · exact (mI_ne _ _ _ _ _ (by decide)).trans ((mI_ne _ _ _ _ _ (by decide)).trans (mI_eq _ _ _ _))
        · exact (mI_ne _ _ _ _ _ (by decide)).trans (mI_eq _ _ _ _)
        · exact mI_eq _ _ _ _
      rw [← e4]
      have hx4 : dsk_ M4 x := dsk_nw n4 ⟨(hz3 _ _ hx.1.1).1, (hz3 _ _ (dsk_s3 hx)).1, (hz3 _ _ (dsk_s4 hx)).1, (hz3 _ _ (dsk_s5 hx)).1, (hz3 _ _ (dsk_s6 hx)).1⟩ hxd3
      have hp4 : prt_ M4 (pa q) := prt_nw n4 (hz3 _ _ hp.1).1 hp3
      have ht4 := nw_sh n4 htk
      have tk4 : mm_I M4 tk = mm_I M3 tk := (n4 _ _ htk).2.1 (Ne.symm hzt)
      have p4 : mm_I M4 (pa q) = mm_I M (pa q) := ((n4 _ _ hp3.1).2.1 (hz3 _ _ hp.1).1).trans pI3
      have s4 : mm_I M4 (pa q + 1) = mm_I M (pa q + 1) := ((n4 _ _ (prt_s2 hp3)).2.1 (hz3 _ _ (prt_s2 hp)).1).trans sI3
      have x4 : ∀ j, mm_I M4 x j = mm_I M x j := fun j => by rw [(n4 _ _ hxd3.1.1).2.1 (hz3 _ _ hx.1.1).1]; exact xI3 j
      refine wa_aload dX10_seal_166 rfl rfl ?_
      refine wa_iload dX10_seal_168 rfl ?_
      refine wa_aload dX10_seal_170 rfl rfl ?_
      refine wa_callV  (q := (RX3, TX3, 8)) (As := [.int (nI fee), .ref tk]) dX10_seal_172 lk_X10_182 rfl rfl hp4.1 rfl rfl (Nat.le_of_ble_eq_true rfl) (Nat.le_of_eq (Nat.zero_add _)) (Nat.le_of_eq (Nat.zero_add _)) (k_X3_book (nI fee) tk hp4 ht4 (fun e => (hz3 _ _ (prt_s2 hp)).2 e.symm) ?_)
      obtain ⟨M5, e5⟩ : ∃ M5, M5 = (pb_ (mm_sI (mm_sI M4 (pa q) 6 (mm_I M4 (pa q) 6 + nI fee)) (pa q) 7 (mm_I M4 (pa q) 7 + 1)) (pa q) tk 5) := ⟨_, rfl⟩
      have k5 : md_sk M4 M5 := by rw [e5]; exact pb_sk _ _ _ _
      have i5 : ∀ b j, mm_I M5 b j = if b = pa q + 1 ∧ j < 5 then mm_I M4 (pa q + 1) j + -mm_I M4 tk j else if b = pa q ∧ j = 7 then mm_I M4 (pa q) 7 + 1 else if b = pa q ∧ j = 6 then mm_I M4 (pa q) 6 + nI fee else mm_I M4 b j := by
        intro b j
        rw [e5, pb_I (fun e => (hz3 _ _ (prt_s2 hp)).2 e.symm)]
        rw [mI_na _ _ _ _ _ _ (show pa q + 1 ≠ pa q from by omega), mI_na _ _ _ _ _ _ (show pa q + 1 ≠ pa q from by omega), mI_na _ _ _ _ _ _ (Ne.symm (hz3 _ _ hp.1).2), mI_na _ _ _ _ _ _ (Ne.symm (hz3 _ _ hp.1).2), mm_I_sI, mm_I_sI]
      rw [← e5]
      have hx5 : dsk_ M5 x := md_sk_dsk k5 hx4
      have x5 : ∀ j, mm_I M5 x j = mm_I M x j := fun j => by rw [i5, if_neg (fun z => hxp.2.2.1 z.1), if_neg (fun z => hxp.1 z.1), if_neg (fun z => hxp.1 z.1)]; exact x4 j
      have a5 : ∀ j, mm_I M5 (mm_z M) j = mm_I M4 (mm_z M) j := fun j => by rw [i5, if_neg (fun z => (hz3 _ _ (prt_s2 hp)).1 z.1.symm), if_neg (fun z => (hz3 _ _ hp.1).1 z.1.symm), if_neg (fun z => (hz3 _ _ hp.1).1 z.1.symm)]
      have ash5 : mm_sh M5 (mm_z M) = some (.inl 2) := by rw [md_sk_sh k5]; exact f4.1.1
      refine wa_aload_n dX10_seal_175 rfl rfl ?_
      refine wa_getR (q := (RX10, TX10, 13)) (ci := 10) (k := 2) dX10_seal_176 rfl (by decide) wf_X10_23 hx5.1.1 rfl (dsk_r2 hx5) ?_
      refine wa_aload_n dX10_seal_179 rfl rfl ?_
      refine wa_getI (q := (RX10, TX10, 13)) (ci := 10) (k := 9) dX10_seal_180 rfl (by decide) wf_X10_64 hx5.1.1 rfl ?_
      rw [x5, hN]
      refine wa_aload dX10_seal_183 rfl rfl ?_
      refine wa_aastN (q := (RX2, TX2, 9)) dX10_seal_185 (dsk_s2 hx5) (by decide) (by decide) ash5 rfl rfl (by omega) (by decide) ?_
      have n6 : nw_ (fun _ => False) (fun z => z = x + 3) M5 (mm_sR M5 (x + 3) N (some (mm_z M))) := nw_R (nw_rf _ _ _) (Or.inl rfl)
      have hx6 := dsk_nw n6 ⟨by omega, by omega, by omega, by omega, by omega⟩ hx5
      refine wa_aload_n dX10_seal_186 rfl rfl ?_
      refine wa_dup dX10_seal_187 rfl ?_
      refine wa_getI (q := (RX10, TX10, 13)) (ci := 10) (k := 9) dX10_seal_188 rfl (by decide) wf_X10_64 hx5.1.1 rfl ?_
      rw [show mm_I (mm_sR M5 (x + 3) N (some (mm_z M))) x 9 = nI N from (x5 9).trans hN]
      refine wa_iconst (v := 1) dX10_seal_191 (by decide) ?_
      refine wa_iadd dX10_seal_192 ?_
      rw [show nI N + 1 = nI (N + 1) from ni_i1 N]
      refine wa_put (q := (RX10, TX10, 13)) (ci := 10) (k := 9) dX10_seal_193 rfl (by decide) wf_X10_64 rfl hx5.1.1 rfl ?_
      rw [mm_putI]
      refine wa_aload_n dX10_seal_196 rfl rfl ?_
      refine wa_aload_n dX10_seal_197 rfl rfl ?_
      refine wa_getI (q := (RX10, TX10, 13)) (ci := 10) (k := 9) dX10_seal_198 rfl (by decide) wf_X10_64 hx5.1.1 rfl ?_
      rw [mI_eq]
      refine wa_iconst (v := 1) dX10_seal_201 (by decide) ?_
      refine wa_isub dX10_seal_202 ?_
      rw [nI_pred N]
      refine wa_callV  (q := (RX10, TX10, 13)) (As := [.int (nI N)]) dX10_seal_203 lk_X10_87 rfl rfl hx5.1.1 rfl rfl (Nat.le_of_ble_eq_true rfl) (Nat.le_of_eq (Nat.zero_add _)) (Nat.le_of_eq (Nat.zero_add _)) (k_X10_accept (nI N) hx6 ?_)
      exact wa_iret dX10_seal_206 rfl (by
      have L4 : ∀ b, mm_L M5 b = mm_L M4 b := fun b => md_sk_L k5 b
      have n5 : nw_ (fun z => z = x + 11 ∨ z = x + 12 ∨ z = pa q ∨ z = pa q + 1) (fun z => z = x + 11) M M5 := by
        refine md_sk_nw (nw_trf (nw_mono n3 (fun _ h => by rcases h with h | h <;> simp [h]) (fun _ h => h)) n4 (fun z u h1 h2 => absurd h1 (hz3 z u h2).1) (fun z u h1 h2 => absurd h1 (hz3 z u h2).1)) k5 (fun z s hz hX => ?_) L4
        funext j
        rw [i5, if_neg (fun e => hX (Or.inr (Or.inr (Or.inr e.1)))), if_neg (fun e => hX (Or.inr (Or.inr (Or.inl e.1)))), if_neg (fun e => hX (Or.inr (Or.inr (Or.inl e.1))))]
      have xz : ∀ j w, mm_I (mm_sI (mm_sI (mm_sR M5 (x + 3) N (some (mm_z M))) x 9 (nI (N + 1))) x 11 0) j w = if j = x ∧ w = 11 then 0 else if j = x ∧ w = 9 then nI (N + 1) else mm_I M5 j w := fun j w => by rw [mm_I_sI, mm_I_sI]; rfl
      have zx : ∀ w, mm_I (mm_sI (mm_sI (mm_sR M5 (x + 3) N (some (mm_z M))) x 9 (nI (N + 1))) x 11 0) (mm_z M) w = mm_I M4 (mm_z M) w := fun w => by rw [xz, if_neg (fun e => (hz3 _ _ hx.1.1).1 e.1.symm), if_neg (fun e => (hz3 _ _ hx.1.1).1 e.1.symm)]; exact a5 w
      have R5 : ∀ b, mm_R M5 b = mm_R M4 b := fun b => md_sk_R k5 b
      refine hO hN9 (mm_z M) tk _ ⟨nw_I (nw_I (nw_R (nw_mono n5 (fun _ h => Or.inr h) (fun _ h => Or.inl h)) (Or.inl (Or.inr rfl))) (Or.inl (Or.inl rfl))) (Or.inl (Or.inl rfl)), ?_, mR_eq _ _ _ _, fun j hj => ?_, hfz, hftk, ⟨ash5, (zx 0).trans f4.1.2.1, (zx 1).trans f4.1.2.2.1, (zx 2).trans f4.1.2.2.2.1, (zx 3).trans f4.1.2.2.2.2.1, (zx 4).trans f4.1.2.2.2.2.2⟩, (zx 5).trans f4.2.1, (zx 6).trans f4.2.2.1, (zx 7).trans f4.2.2.2.1, ?_, ?_, fun i hi => ?_, ?_, ?_, fun j j1 j2 => ?_, fun i hi => ?_, ?_, mI_eq _ _ _ _, fun j j1 j2 => ?_⟩
      · refine (mR_na _ _ _ _ _ _ (by omega)).trans ?_
        rw [R5, (n4 _ _ (dsk_s6 hxd3)).2.2.2 (hz3 _ _ (dsk_s6 hx)).1]
        exact r3
      · refine (mR_ne _ _ _ _ _ hj).trans ?_
        rw [R5, (n4 _ _ (dsk_s2 hxd3)).2.2.2 (hz3 _ _ (dsk_s2 hx)).1, (n3 _ _ (dsk_s2 hx)).2.2.2 (by omega)]
      · refine (mR_na _ _ _ _ _ _ (Ne.symm (hz3 _ _ (dsk_s2 hx)).1)).trans ?_
        rw [R5]
        exact f4.2.2.2.2
      · show mm_sh M5 tk = _
        rw [md_sk_sh k5]
        exact ht4
      · rw [xz, if_neg (fun e => (hz3 _ _ hx.1.1).2 e.1.symm), if_neg (fun e => (hz3 _ _ hx.1.1).2 e.1.symm), i5, if_neg (fun e => (hz3 _ _ (prt_s2 hp)).2 e.1.symm), if_neg (fun e => (hz3 _ _ hp.1).2 e.1.symm), if_neg (fun e => (hz3 _ _ hp.1).2 e.1.symm), tk4]
        exact hin i hi
      · rw [xz, if_neg (fun e => hxp.1 e.1.symm), if_neg (fun e => hxp.1 e.1.symm), i5, if_neg (by omega), if_neg (by omega), if_pos ⟨rfl, rfl⟩, p4]
      · rw [xz, if_neg (fun e => hxp.1 e.1.symm), if_neg (fun e => hxp.1 e.1.symm), i5, if_neg (by omega), if_pos ⟨rfl, rfl⟩, p4]
      · rw [xz, if_neg (fun e => hxp.1 e.1.symm), if_neg (fun e => hxp.1 e.1.symm), i5, if_neg (by omega), if_neg (fun e => j2 e.2), if_neg (fun e => j1 e.2), p4]
      · rw [xz, if_neg (fun e => hxp.2.2.1 e.1.symm), if_neg (fun e => hxp.2.2.1 e.1.symm), i5, if_pos ⟨rfl, hi⟩, s4, tk4, hsA.2 i hi, hin i hi]
        refine nI_an ?_
        obtain ⟨o0, o1, o2, o3, o4, -⟩ := hopt.1
        rcases (by omega : i = 0 ∨ i = 1 ∨ i = 2 ∨ i = 3 ∨ i = 4) with rfl | rfl | rfl | rfl | rfl <;> assumption
      · rw [xz, if_neg (by omega), if_pos ⟨rfl, rfl⟩]
      · rw [xz, if_neg (fun e => j2 e.2), if_neg (fun e => j1 e.2)]
        exact x5 j)
    · have hN9 : N = 200 := by
        have := ni_nlt (b := 200) hF142 (by omega) (by decide)
        omega
      refine wa_aload_n dX10_seal_145 rfl rfl ?_
      refine wa_iconst (v := 3) dX10_seal_146 (by decide) ?_
      refine wa_callV  (q := (RX10, TX10, 13)) (As := [.int 3]) dX10_seal_147 lk_X10_76 rfl rfl hxd3.1.1 rfl rfl (Nat.le_of_ble_eq_true rfl) (Nat.le_of_eq (Nat.zero_add _)) (Nat.le_of_eq (Nat.zero_add _)) (k_X10_refuse 3 hxd3 ?_)
      exact wa_iret dX10_seal_150 rfl (hR hN9 _ ⟨nw_I (nw_mono n3 (fun _ h => Or.inr h) (fun _ h => h)) (Or.inl (Or.inl rfl)), r3, mI_eq _ _ _ _, fun j hj => (mI_ne _ _ _ _ _ hj).trans (xI3 j)⟩)
  have s43t : ∀ q t, q < P → t < T → 0 ≤ k → k ≤ 9 → 0 ≤ v → v ≤ 9999 → 1 ≤ s → s ≤ 99 → (((fq_ (-2) k v s (nI q) (mm_I M (pa q) 7) (tl t)) = -2 → ∀ M' : mm_M, slf_F M M' x 5 → Q (some (.int (-1))) M') ∧
      (∀ fee, fee ≤ 5000 → (fq_ (-2) k v s (nI q) (mm_I M (pa q) 7) (tl t)) = nI fee → (fq_ (-1) k v s (nI q) (mm_I M (pa q) 7) (tl t)) = nI fee → ((∀ n, ¬ fz_ (st q) fee n) → ∀ M' : mm_M, slf_F M M' x 6 → Q (some (.int (-1))) M') ∧
        ∀ n, opt_ (st q) fee n → (N = 200 → ∀ M' : mm_M, slf_F M M' x 3 → Q (some (.int (-1))) M') ∧
          (N < 200 → ∀ (a tk : Nat) (M' : mm_M), seal_F M M' x N (pa q) a tk k v s (nI q) (mm_I M (pa q) 7) fee t n (st q) → Q (some (.int (nI N))) M'))) → wa_ 0 G jX10_seal (d + 9) 13 69 Q 13 69 M 43 [some (.ref x), some (.int (nI q)), some (.int k), some (.int v), some (.int s), some (.ref (pa q)), none, none, none, none, none] [.int (nI t)] := by
    intro q t hq ht z1 z2 z3 z4 z5 z6 hE
    have hpq := (hP.2.2.2 q hq).2.1
    have hT30 := hT.2.1
    have hP8 := hP.2.1
    have htt := (dTL_dT hT).2.2 t ht
    have r0 : mm_R M (x + 11) 0 = some (x + 12) := hx.2.2.2.2.1
    refine wa_istore dX10_seal_43 (by decide) rfl rfl ?_
    refine wa_aload_n dX10_seal_45 rfl rfl ?_
    refine wa_iload dX10_seal_46 rfl ?_
    refine wa_callV  (q := (RX10, TX10, 13)) (As := [.int (nI t)]) dX10_seal_48 lk_X10_153 rfl rfl hx.1.1 rfl rfl (Nat.le_of_ble_eq_true rfl) (Nat.le_of_eq (Nat.zero_add _)) (Nat.le_of_eq (Nat.zero_add _)) (k_X10_tariffAt (nI t) T ta la hx (dTL_dT hT) (fun t9 et h9 => ?_) (fun z9 => absurd z9 (by rintro (z | z) <;> first | exact nI_pos (by omega) z | exact nI_ge (by omega) (by omega) z)))
    obtain rfl : t = t9 := (nI_eq (by omega) (by omega)).mp et
    refine wa_astore dX10_seal_51 (by decide) rfl rfl rfl ?_
    refine wa_aload dX10_seal_53 rfl rfl ?_
    refine wa_ifnonnullR (tgt := 64) dX10_seal_55 (by decide) ?_
    refine wa_new (kc := 12) (ks := 60) (n := 9) (q := (RX2, TX2, 9)) (ci := 2) dX10_seal_64 rfl rfl wc_X10_21 wt_X2 wn_X2 (fun hext => ?_)
    have hfz := nw_fresh (X := fun _ => False) (Y := fun _ => False) (nw_rf _ _ M) hext
    have hz9 := mm_sh_z M (.inl 2)
    have hn1 : nw_ (fun _ => False) (fun _ => False) M (mm_new M (.inl 2)) := nw_new (nw_rf _ _ _) hext
    have hx1 := dsk_nw hn1 ⟨id, id, id, id, id⟩ hx
    have hpq1 := prt_nw hn1 id hpq
    have htt1 := (nw_sh hn1 htt.2.1)
    refine wa_dup dX10_seal_67 rfl ?_
    refine wa_iload_n dX10_seal_68 rfl ?_
    refine wa_iload_n dX10_seal_69 rfl ?_
    refine wa_iload_n dX10_seal_70 rfl ?_
    refine wa_iload dX10_seal_71 rfl ?_
    refine wa_aload dX10_seal_73 rfl rfl ?_
    refine wa_getI (q := (RX3, TX3, 8)) (ci := 3) (k := 7) dX10_seal_75 rfl (by decide) wf_X10_161 hpq1.1 rfl ?_
    rw [show mm_I (mm_new M (.inl 2)) (pa q) 7 = (mm_I M (pa q) 7) from by rw [(hn1 _ _ hpq.1).2.1 id]]
    refine wa_callI (kc' := 12) (ks' := 60) (As := [.int (nI q), .int k, .int v, .int s, .int (mm_I M (pa q) 7)]) dX10_seal_78 lk_X10_163 rfl rfl rfl (Nat.le_of_ble_eq_true rfl) (by decide) (by decide) (k_X2_init (nI q) k v s (mm_I M (pa q) 7) hz9 ?_)
    have hn2 : nw_ (fun _ => False) (fun _ => False) M (pnw_ (mm_new M (.inl 2)) (mm_z M) (nI q) k v s (mm_I M (pa q) 7)) := pnw_nw (nw_new (nw_rf _ _ _) hext) hfz
    have hx2 := dsk_nw hn2 ⟨id, id, id, id, id⟩ hx
    have htt2 := nw_sh hn2 htt.2.1
    have hpq2 := prt_nw hn2 id hpq
    have x2 : ∀ j, mm_I (pnw_ (mm_new M (.inl 2)) (mm_z M) (nI q) k v s (mm_I M (pa q) 7)) x j = mm_I M x j := fun j => by rw [(hn2 _ _ hx.1.1).2.1 id]
    have hT2 := dTL_nw hn2 (x2 8) hx (fun _ z => z.elim) (fun _ z => z.elim) (fun _ z => z.elim) hT
    have hpf : pf_ (pnw_ (mm_new M (.inl 2)) (mm_z M) (nI q) k v s (mm_I M (pa q) 7)) (mm_z M) k v s (nI q) (mm_I M (pa q) 7) := pnw_pf hz9
    change wa_ 0 G jX10_seal (d + 9) 13 69 Q 12 60 (pnw_ (mm_new M (.inl 2)) (mm_z M) (nI q) k v s (mm_I M (pa q) 7)) 81 _ _
    refine wa_astore dX10_seal_81 (by decide) rfl rfl rfl ?_
    refine wa_aload dX10_seal_83 rfl rfl ?_
    refine wa_aload dX10_seal_85 rfl rfl ?_
    refine wa_callV  (q := (RX6, TX6, 2)) (As := [.ref (mm_z M)]) dX10_seal_87 lk_X10_166 rfl rfl htt2 rfl rfl (Nat.le_of_ble_eq_true rfl) (Nat.le_of_eq (Nat.zero_add _)) (Nat.le_of_eq (Nat.zero_add _)) (k_X6_feeOf (d := d + 5) (mm_z M) (la t) ((dTL_dT hT2).2.2 t ht).2 hpf.1 ?_)
    rw [fo_t hT2 hv ht hpf]
    refine wa_istore dX10_seal_90 (by decide) rfl rfl ?_
    refine wa_iload dX10_seal_92 rfl ?_
    refine wa_bipush (v := -2) dX10_seal_94 (by decide) ?_
    refine wa_icmp_ne (tgt := 105) dX10_seal_96 (by decide) (fun hT96 => ?_) (fun hF96 => ?_)
    · have hbm := ms_nb (v := v) (s := s) (p := nI q) (h := (mm_I M (pa q) 7)) (nb_of 9999 rfl (by decide) (show nI 0 ≤ v from z3) (by decide) z4) (nb_w (nb_of 99 rfl (by decide) (show nI 1 ≤ s from z5) (by decide) z6) (by decide) (by decide)) ⟨q, by omega, by omega, rfl⟩ (hsb q hq)
      obtain ⟨fee, hfee, ef1, ef2⟩ : ∃ fee, fee ≤ 5000 ∧ (fq_ (-1) k v s (nI q) (mm_I M (pa q) 7) (tl t)) = nI fee ∧ (fq_ (-2) k v s (nI q) (mm_I M (pa q) 7) (tl t)) = nI fee := by
        rcases fq_nat (n0 := -2) (w := k) hbm (tl t) (hv t ht).2 with ⟨e1, -, -⟩ | ⟨kf, k1, -, k2, k3⟩
        · exact absurd e1 hT96
        · exact ⟨kf, k1, k2, k3⟩
      rw [ef2]
      have ttn : ∀ z s, mm_sh M z = some s → z ≠ mm_z M := fun z s hz e => hfz s (by rw [← e]; exact hz)
      have hcx2 : cx_ (pnw_ (mm_new M (.inl 2)) (mm_z M) (nI q) k v s (mm_I M (pa q) 7)) (x + 11) w0 s0 := ⟨nw_sh hn2 hcx.1, by rw [(hn2 _ _ hcx.1).2.2.2 id]; exact hcx.2.1, nw_sh hn2 hcx.2.2.1, nw_sh hn2 hcx.2.2.2.1, fun i hi => by rw [(hn2 _ _ hcx.2.2.2.1).2.1 id]; exact hcx.2.2.2.2.1 i hi, nw_sh hn2 hcx.2.2.2.2.2.1, fun i hi => by rw [(hn2 _ _ hcx.2.2.2.2.2.1).2.1 id]; exact hcx.2.2.2.2.2.2 i hi⟩
      have hst2 : cst_ (pnw_ (mm_new M (.inl 2)) (mm_z M) (nI q) k v s (mm_I M (pa q) 7)) (pa q + 1) (st q) := ⟨nw_sh hn2 (hst q hq).1, fun i hi => by rw [(hn2 _ _ (hst q hq).1).2.1 id]; exact (hst q hq).2 i hi⟩
      refine wa_aload_n dX10_seal_105 rfl rfl ?_
      refine wa_getR (q := (RX10, TX10, 13)) (ci := 10) (k := 6) dX10_seal_106 rfl (by decide) wf_X10_53 hx2.1.1 rfl (dsk_r6 hx2) ?_
      refine wa_aload dX10_seal_109 rfl rfl ?_
      refine wa_getR (q := (RX3, TX3, 8)) (ci := 3) (k := 2) dX10_seal_111 rfl (by decide) wf_X10_170 hpq2.1 rfl (prt_r2 hpq2) ?_
      refine wa_iload dX10_seal_114 rfl ?_
      refine wa_callV (kc' := 0) (ks' := 0) (q := (RX0, TX0, 3)) (As := [.ref (pa q + 1), .int (nI fee)]) dX10_seal_116 lk_X10_174 rfl rfl (dsk_s6 hx2) rfl rfl (Nat.le_of_ble_eq_true rfl) (by decide) (by decide) (k_X0_fewest (c := x + 11) hG0 hG1 (hpx q hq) (hstb q) hfee hcx2 hst2 (fun hno M3 n3 c3 => ?_) (fun n tk M3 hopt n3 c3 s3 g1 g2 g3 g4 => ?_))
      · have hx3 : dsk_ M3 x ∧ True := ⟨(by
        obtain ⟨⟨d1, d2, d3, d4, d5, d6, d7, d8, d9, d10, d11, d12, d13, d14, d15⟩, ⟨t1, t2, t3⟩, kk, r1, c1, c2⟩ := hx2
        have e0 := (n3 _ _ d1).2.2.2 (by omega)
        refine ⟨⟨(n3 _ _ d1).1, ?_, (n3 _ _ d3).1, ?_, (n3 _ _ d5).1, ?_, (n3 _ _ d7).1, ?_, (n3 _ _ d9).1, ?_, (n3 _ _ d11).1, ?_, (n3 _ _ d13).1, ?_, (n3 _ _ d15).1⟩, ⟨(n3 _ _ t1).1, by rw [(n3 _ _ t1).2.2.2 (by omega)]; exact t2, (n3 _ _ t3).1⟩, tok_nw n3 (by omega) kk, by rw [(n3 _ _ d13).2.2.2 (by omega)]; exact r1, c3.2.1, (n3 _ _ c2).1⟩ <;> (rw [e0]; assumption)), trivial⟩
        refine wa_astore dX10_seal_119 (by decide) rfl rfl rfl ?_
        refine wa_aload dX10_seal_121 rfl rfl ?_
        refine wa_ifnonnullN dX10_seal_123 ?_
        refine wa_aload_n dX10_seal_126 rfl rfl ?_
        refine wa_bipush (v := 6) dX10_seal_127 (by decide) ?_
        refine wa_callV  (q := (RX10, TX10, 13)) (As := [.int 6]) dX10_seal_129 lk_X10_76 rfl rfl hx3.1.1.1 rfl rfl (Nat.le_of_ble_eq_true rfl) (Nat.le_of_eq (Nat.zero_add _)) (Nat.le_of_eq (Nat.zero_add _)) (k_X10_refuse 6 hx3.1 ?_)
        exact wa_iret dX10_seal_132 rfl ((hE.2 fee hfee ef2 ef1).1 hno _ ⟨nw_I (nw_tr (nw_mono hn2 (fun _ h => h.elim) (fun _ h => h.elim)) (nw_mono n3 (fun _ h => Or.inr h) (fun _ h => h))) (Or.inl (Or.inl rfl)), c3.2.1, mI_eq _ _ _ _, fun j hj => (mI_ne _ _ _ _ _ hj).trans (by rw [(n3 _ _ hx2.1.1).2.1 (by omega)]; exact x2 j)⟩)
      · refine wa_astore dX10_seal_119 (by decide) rfl rfl rfl ?_
        refine s121 q t fee hq ht hfee n tk M3 hopt (nw_tr (nw_mono hn2 (fun _ h => h.elim) (fun _ h => h.elim)) n3) (c3.2.1) ?_ hfz g1 (fun u hu => g2 u (nw_sh hn2 hu)) g4 ((hE.2 fee hfee ef2 ef1).2 n hopt).1 ((hE.2 fee hfee ef2 ef1).2 n hopt).2
        have nz : ¬ (mm_z M = x + 11 ∨ mm_z M = x + 11 + 1) := fun e => by
          rcases e with e | e
          · exact ttn _ _ (dsk_s6 hx) e.symm
          · exact ttn _ _ hx.2.2.2.2.2 e.symm
        obtain ⟨b0, b1, b2, b3, b4, b5⟩ := hpf
        have e9 := (n3 _ _ b0).2.1 nz
        exact ⟨(n3 _ _ b0).1, by rw [e9]; exact b1, by rw [e9]; exact b2, by rw [e9]; exact b3, by rw [e9]; exact b4, by rw [e9]; exact b5⟩
    · refine wa_aload_n dX10_seal_99 rfl rfl ?_
      refine wa_iconst (v := 5) dX10_seal_100 (by decide) ?_
      refine wa_callV  (q := (RX10, TX10, 13)) (As := [.int 5]) dX10_seal_101 lk_X10_76 rfl rfl hx2.1.1 rfl rfl (Nat.le_of_ble_eq_true rfl) (Nat.le_of_eq (Nat.zero_add _)) (Nat.le_of_eq (Nat.zero_add _)) (k_X10_refuse 5 hx2 ?_)
      exact wa_iret dX10_seal_104 rfl (hE.1 hF96 _ ⟨nw_I (nw_mono hn2 (fun _ h => h.elim) (fun _ h => h.elim)) (Or.inl (Or.inl rfl)), (by rw [show mm_R (mm_sI (pnw_ (mm_new M (.inl 2)) (mm_z M) (nI q) k v s (mm_I M (pa q) 7)) x 11 5) (x + 11) 0 = mm_R (pnw_ (mm_new M (.inl 2)) (mm_z M) (nI q) k v s (mm_I M (pa q) 7)) (x + 11) 0 from rfl, (hn2 _ _ (dsk_s6 hx)).2.2.2 id]; exact r0), mI_eq _ _ _ _, fun j hj => (mI_ne _ _ _ _ _ hj).trans (x2 j)⟩)
  refine wa_aload_n dX10_seal_0 rfl rfl ?_
  refine wa_iload_n dX10_seal_1 rfl ?_
  refine wa_callV  (q := (RX10, TX10, 13)) (As := [.int p]) dX10_seal_2 lk_X10_119 rfl rfl hx.1.1 rfl rfl (Nat.le_of_ble_eq_true rfl) (Nat.le_of_eq (Nat.zero_add _)) (Nat.le_of_eq (Nat.zero_add _)) (k_X10_portAt p P T pa hx hP (fun q eq hq => ?_) (fun hAq => ?_))
  · subst eq
    have hpq := (hP.2.2.2 q hq).2.1
    refine wa_astore dX10_seal_5 (by decide) rfl rfl rfl ?_
    refine wa_aload dX10_seal_7 rfl rfl ?_
    refine wa_ifnonnullR (tgt := 18) dX10_seal_9 (by decide) ?_
    refine wa_iload_n dX10_seal_18 rfl ?_
    refine wa_iload_n dX10_seal_19 rfl ?_
    refine wa_iload dX10_seal_20 rfl ?_
    refine wa_callS (As := [.int k, .int v, .int s]) dX10_seal_22 lk_X10_157 rfl rfl (Nat.le_of_ble_eq_true rfl) (Nat.le_of_eq (Nat.zero_add _)) (Nat.le_of_eq (Nat.zero_add _)) (k_X10_isPaper k v s (fun z1 z2 z3 z4 z5 z6 => ?_) (fun hNP => ?_))
    · refine wa_if_ne (tgt := 34) dX10_seal_25 (by decide) (fun _ => ?_) (fun h9 => absurd h9 (by decide))
      refine wa_aload dX10_seal_34 rfl rfl ?_
      refine wa_aload_n dX10_seal_36 rfl rfl ?_
      refine wa_getI (q := (RX10, TX10, 13)) (ci := 10) (k := 10) dX10_seal_37 rfl (by decide) wf_X10_67 hx.1.1 rfl ?_
      refine wa_callV  (q := (RX3, TX3, 8)) (As := [.int (mm_I M x 10)]) dX10_seal_40 lk_X10_131 rfl rfl hpq.1 rfl rfl (Nat.le_of_ble_eq_true rfl) (Nat.le_of_eq (Nat.zero_add _)) (Nat.le_of_eq (Nat.zero_add _)) (k_X3_inForce (mm_I M x 10) T hpq (hP.2.2.2 q hq).2.2 hP.2.2.1 (fun t ht ha hb => ?_))
      rcases Nat.eq_zero_or_pos t with e0 | e0
      · subst e0
        rw [if_pos rfl]
        exact s43n q hq (h5 q rfl hq z1 z2 z3 z4 z5 z6 (fun h => hb h))
      · obtain ⟨t', rfl⟩ : ∃ t', t = t' + 1 := ⟨t - 1, by omega⟩
        rw [if_neg (by omega), nI_pred]
        exact s43t q t' hq (by omega) z1 z2 z3 z4 z5 z6 (h1 q t' rfl hq z1 z2 z3 z4 z5 z6 (by omega) (fun j hj => ha j (by omega)) (fun h => hb h))
    · refine wa_if_ne (tgt := 34) dX10_seal_25 (by decide) (fun h9 => absurd h9 (by decide)) (fun _ => ?_)
      refine wa_aload_n dX10_seal_28 rfl rfl ?_
      refine wa_iconst (v := 2) dX10_seal_29 (by decide) ?_
      refine wa_callV  (q := (RX10, TX10, 13)) (As := [.int 2]) dX10_seal_30 lk_X10_76 rfl rfl hx.1.1 rfl rfl (Nat.le_of_ble_eq_true rfl) (Nat.le_of_eq (Nat.zero_add _)) (Nat.le_of_eq (Nat.zero_add _)) (k_X10_refuse 2 hx ?_)
      exact wa_iret dX10_seal_33 rfl (h2 q rfl hq hNP)
  · refine wa_astore dX10_seal_5 (by decide) rfl rfl rfl ?_
    refine wa_aload dX10_seal_7 rfl rfl ?_
    refine wa_ifnonnullN dX10_seal_9 ?_
    refine wa_aload_n dX10_seal_12 rfl rfl ?_
    refine wa_iconst (v := 1) dX10_seal_13 (by decide) ?_
    refine wa_callV  (q := (RX10, TX10, 13)) (As := [.int 1]) dX10_seal_14 lk_X10_76 rfl rfl hx.1.1 rfl rfl (Nat.le_of_ble_eq_true rfl) (Nat.le_of_eq (Nat.zero_add _)) (Nat.le_of_eq (Nat.zero_add _)) (k_X10_refuse 1 hx ?_)
    exact wa_iret dX10_seal_17 rfl (h0 hAq)
