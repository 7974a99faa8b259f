/-! tariffs are sent out -/
def dPw_ (M : mm_M) (x P : Nat) (pa : Nat → Nat) : Prop := mm_I M x 7 = nI P ∧ P ≤ 8 ∧ ∀ q, q < P → mm_R M (x + 1) q = some (pa q) ∧ prt_ M (pa q)
theorem kw_X10_portAt {G : mm_G} {d : Nat} {Q : Option Value → mm_M → Prop} {M : mm_M} {x : Nat} (k : Int32) (P : Nat) (pa : Nat → Nat) (hx : dsk_ M x) (hP : dPw_ M x P pa) (h1 : ∀ q : Nat, k = nI q → q < P → Q (some (.ref (pa q))) M) (h0 : k < 0 ∨ nI P ≤ k → Q (some .null) M) : ma_ G jX10_portAt d 0 0 [.ref x, .int k] M Q := by
  refine ma_of [some (.ref x), some (.int k)] (by decide) rfl (Nat.le_of_ble_eq_true rfl) ?_
  refine wa_iload_n dX10_portAt_0 rfl ?_
  refine wa_if_lt (tgt := 30) dX10_portAt_1 (by decide) (fun hT1 => ?_) (fun hF1 => ?_)
  · refine wa_null dX10_portAt_30 ?_
    exact wa_aret dX10_portAt_31 rfl (Or.inl ⟨_, rfl⟩) rfl (by first | exact h1 q rfl hq | exact h0 (Or.inl (by assumption)) | exact h0 (Or.inr (by assumption)))
  · refine wa_iload_n dX10_portAt_4 rfl ?_
    refine wa_aload_n dX10_portAt_5 rfl rfl ?_
    refine wa_getI (q := (RX10, TX10, 13)) (ci := 10) (k := 7) dX10_portAt_6 rfl (by decide) wf_X10_57 hx.1.1 rfl ?_
    rw [hP.1]
    refine wa_icmp_ge (tgt := 30) dX10_portAt_9 (by decide) (fun hT9 => ?_) (fun hF9 => ?_)
    · refine wa_null dX10_portAt_30 ?_
      exact wa_aret dX10_portAt_31 rfl (Or.inl ⟨_, rfl⟩) rfl (by first | exact h1 q rfl hq | exact h0 (Or.inl (by assumption)) | exact h0 (Or.inr (by assumption)))
    · have hn9 := hP.2.1
      obtain ⟨q, hq, rfl⟩ := ix_of hF1 hF9 (by omega)
      refine wa_iload_n dX10_portAt_12 rfl ?_
      refine wa_aload_n dX10_portAt_13 rfl rfl ?_
      refine wa_getR (q := (RX10, TX10, 13)) (ci := 10) (k := 0) dX10_portAt_14 rfl (by decide) wf_X10_11 hx.1.1 rfl (dsk_r0 hx) ?_
      refine wa_alen dX10_portAt_17 (dsk_s0 hx) ?_
      refine wa_icmp_ge (tgt := 30) dX10_portAt_18 (by decide) (fun hT18 => absurd hT18 (nI_ge (b := 8) (by omega) (by decide))) (fun hF18 => ?_)
      refine wa_aload_n dX10_portAt_21 rfl rfl ?_
      refine wa_getR (q := (RX10, TX10, 13)) (ci := 10) (k := 0) dX10_portAt_22 rfl (by decide) wf_X10_11 hx.1.1 rfl (dsk_r0 hx) ?_
      refine wa_iload_n dX10_portAt_25 rfl ?_
      refine wa_aaldN dX10_portAt_26 (dsk_s0 hx) (by decide) (by decide) (by omega) (by decide) (rf_some (hP.2.2 q hq).1) ?_
      refine wa_goto (tgt := 31) dX10_portAt_27 (by decide) ?_
      exact wa_aret dX10_portAt_31 rfl (Or.inl ⟨_, rfl⟩) rfl (by first | exact h1 q rfl hq | exact h0 (Or.inl (by assumption)) | exact h0 (Or.inr (by assumption)))

def so_ (M : mm_M) (x T : Nat) (pa : Nat → Nat) : Nat → mm_M
  | 0 => M
  | q + 1 => mm_sI (mm_sI (so_ M x T pa q) (pa q + 2) T (mm_I M x 10 + mm_I M (pa q) 0)) (pa q) 5 (nI (T + 1))
theorem so_sk (M : mm_M) (x T : Nat) (pa : Nat → Nat) (k : Nat) : md_sk M (so_ M x T pa k) := by
  induction k with
  | zero => exact md_sk_rf M
  | succ k ih => exact ih
theorem so_s (M : mm_M) (x T : Nat) (pa : Nat → Nat) (k a j : Nat) : mm_I (so_ M x T pa (k + 1)) a j = if a = pa k ∧ j = 5 then nI (T + 1) else if a = pa k + 2 ∧ j = T then mm_I M x 10 + mm_I M (pa k) 0 else mm_I (so_ M x T pa k) a j := by
  show mm_I (mm_sI (mm_sI (so_ M x T pa k) (pa k + 2) T _) (pa k) 5 _) a j = _
  rw [mm_I_sI, mm_I_sI]
theorem so_o {M : mm_M} {x T : Nat} {pa : Nat → Nat} {a j : Nat} : ∀ k, (∀ q, q < k → ¬ (a = pa q ∧ j = 5) ∧ ¬ (a = pa q + 2 ∧ j = T)) → mm_I (so_ M x T pa k) a j = mm_I M a j
  | 0, _ => rfl
  | k + 1, h => by
    rw [so_s, if_neg (h k (by omega)).1, if_neg (h k (by omega)).2]
    exact so_o k (fun q hq => h q (by omega))
/-- the ports are apart -/
def pap_ (P : Nat) (pa : Nat → Nat) : Prop := (∀ q r, q < P → r < P → pa q = pa r → q = r) ∧ ∀ q r, q < P → r < P → pa q ≠ pa r + 2
theorem pap_of {M : mm_M} {P : Nat} {pa : Nat → Nat} (hp : ∀ q, q < P → prt_ M (pa q)) (hi : ∀ q r, q < P → r < P → pa q = pa r → q = r) : pap_ P pa :=
  ⟨hi, fun q r hq hr e => by have h1 := (hp q hq).1; rw [e, prt_s3 (hp r hr)] at h1; cases h1⟩
theorem so_5 {M : mm_M} {x T P : Nat} {pa : Nat → Nat} (hd : pap_ P pa) {q : Nat} (hq : q < P) : ∀ k, k ≤ P → mm_I (so_ M x T pa k) (pa q) 5 = if q < k then nI (T + 1) else mm_I M (pa q) 5
  | 0, _ => (if_neg (by omega)).symm
  | k + 1, h => by
    rw [so_s]
    by_cases e : q = k
    · subst e
      rw [if_pos ⟨rfl, rfl⟩, if_pos (by omega)]
    · rw [if_neg (fun z => e (hd.1 q k hq (by omega) z.1)), if_neg (fun z => hd.2 q k hq (by omega) z.1), so_5 hd hq k (by omega)]
      by_cases h2 : q < k
      · rw [if_pos h2, if_pos (by omega)]
      · rw [if_neg h2, if_neg (by omega)]
theorem so_j {M : mm_M} {x T P : Nat} {pa : Nat → Nat} (hd : pap_ P pa) {q j k : Nat} (hq : q < P) (hk : k ≤ P) (hj : j ≠ 5) : mm_I (so_ M x T pa k) (pa q) j = mm_I M (pa q) j :=
  so_o k (fun r hr => ⟨fun z => hj z.2, fun z => hd.2 q r hq (by omega) z.1⟩)
theorem so_2 {M : mm_M} {x T P : Nat} {pa : Nat → Nat} (hd : pap_ P pa) {q : Nat} (hq : q < P) : ∀ k, k ≤ P → mm_I (so_ M x T pa k) (pa q + 2) T = if q < k then mm_I M x 10 + mm_I M (pa q) 0 else mm_I M (pa q + 2) T
  | 0, _ => (if_neg (by omega)).symm
  | k + 1, h => by
    rw [so_s, if_neg (fun z => hd.2 k q (by omega) hq z.1.symm)]
    by_cases e : q = k
    · subst e
      rw [if_pos ⟨rfl, rfl⟩, if_pos (by omega)]
    · rw [if_neg (fun z => e (hd.1 q k hq (by omega) (by omega))), so_2 hd hq k (by omega)]
      by_cases h2 : q < k
      · rw [if_pos h2, if_pos (by omega)]
      · rw [if_neg h2, if_neg (by omega)]
theorem so_2j {M : mm_M} {x T P : Nat} {pa : Nat → Nat} (hd : pap_ P pa) {q j k : Nat} (hq : q < P) (hk : k ≤ P) (hj : j ≠ T) : mm_I (so_ M x T pa k) (pa q + 2) j = mm_I M (pa q + 2) j :=
  so_o k (fun r hr => ⟨fun z => hd.2 r q (by omega) hq z.1.symm, fun z => hj z.2⟩)
theorem dPw_sk {M M' : mm_M} {x P : Nat} {pa : Nat → Nat} (h : md_sk M M') (h7 : mm_I M' x 7 = mm_I M x 7) (c : dPw_ M x P pa) : dPw_ M' x P pa :=
  ⟨h7.trans c.1, c.2.1, fun q hq => ⟨by rw [md_sk_R h]; exact (c.2.2 q hq).1, md_sk_prt h (c.2.2 q hq).2⟩⟩
theorem dsk_pa {M : mm_M} {x p : Nat} (hx : dsk_ M x) (hp : prt_ M p) : x ≠ p ∧ x ≠ p + 2 ∧ x ≠ p + 1 ∧ x ≠ p + 3 := by
  refine ⟨fun e => ?_, fun e => ?_, fun e => ?_, fun e => ?_⟩
  · have h := hp.1; rw [← e, hx.1.1] at h; cases h
  · have h := prt_s3 hp; rw [← e, hx.1.1] at h; cases h
  · have h := prt_s2 hp; rw [← e, hx.1.1] at h; cases h
  · have h := prt_s4 hp; rw [← e, hx.1.1] at h; cases h

theorem k_X10_sendOut {G : mm_G} {d : Nat} {Q : Option Value → mm_M → Prop} {M : mm_M} {x : Nat} (P T : Nat) (pa : Nat → Nat) (hx : dsk_ M x) (hP : dPw_ M x P pa) (hinj : ∀ q r, q < P → r < P → pa q = pa r → q = r) (hS : ∀ q, q < P → mm_I M (pa q) 5 = nI T) (hT30 : T < 30) (hQ : Q none (so_ M x T pa P)) : ma_ G jX10_sendOut (d + 1) 0 0 [.ref x] M Q := by
  refine ma_of [some (.ref x), none, none] (by decide) rfl (Nat.le_of_ble_eq_true rfl) ?_
  have hd : pap_ P pa := pap_of (fun q hq => (hP.2.2 q hq).2) hinj
  have hP8 := hP.2.1
  have hxj : ∀ k j, k ≤ P → mm_I (so_ M x T pa k) x j = mm_I M x j := fun k j hk => so_o k (fun q hq => ⟨fun z => (dsk_pa hx (hP.2.2 q (by omega)).2).1 z.1, fun z => (dsk_pa hx (hP.2.2 q (by omega)).2).2.1 z.1⟩)
  have loop : ∀ (r q : Nat), P - q = r → q ≤ P → wa_ 0 G jX10_sendOut (d + 1) 0 0 Q 0 0 (so_ M x T pa q) 2 [some (.ref x), some (.int (nI q)), none] [] := by
    intro r
    induction r using Nat.strongRecOn with
    | ind r ih =>
      intro q hr hq
      have hxq := md_sk_dsk (so_sk M x T pa q) hx
      have hPq := dPw_sk (so_sk M x T pa q) (hxj q 7 hq) hP
      refine wa_iload_n dX10_sendOut_2 rfl ?_
      refine wa_aload_n dX10_sendOut_3 rfl rfl ?_
      refine wa_getI (q := (RX10, TX10, 13)) (ci := 10) (k := 7) dX10_sendOut_4 rfl (by decide) wf_X10_57 hxq.1.1 rfl ?_
      rw [hxj q 7 hq, hP.1]
      refine wa_icmp_ge (tgt := 39) dX10_sendOut_7 (by decide) (fun hT7 => ?_) (fun hF7 => ?_)
      · have hq2 : P = q := by
          have := ni_le hT7 (by omega) (by omega)
          omega
        subst hq2
        exact wa_vret dX10_sendOut_39 rfl (hQ)
      · have hq2 : q < P := ni_nle hF7 (by omega) (by omega)
        refine wa_aload_n dX10_sendOut_10 rfl rfl ?_
        refine wa_iload_n dX10_sendOut_11 rfl ?_
        refine wa_callV  (q := (RX10, TX10, 13)) (As := [.int (nI q)]) dX10_sendOut_12 lk_X10_119 rfl rfl hxq.1.1 rfl rfl (Nat.le_of_ble_eq_true rfl) (Nat.le_of_eq (Nat.zero_add _)) (Nat.le_of_eq (Nat.zero_add _)) (kw_X10_portAt (nI q) P pa hxq hPq (fun q9 e9 h9 => ?_) (fun z9 => absurd z9 (by rintro (z | z) <;> first | exact nI_pos (by omega) z | exact nI_ge (by omega) (by omega) z)))
        obtain rfl : q = q9 := (nI_eq (by omega) (by omega)).mp e9
        have hpq := (hPq.2.2 q hq2).2
        refine wa_astore_n dX10_sendOut_15 (by decide) rfl rfl rfl ?_
        refine wa_aload_n dX10_sendOut_16 rfl rfl ?_
        refine wa_ifnullR dX10_sendOut_17 ?_
        refine wa_aload_n dX10_sendOut_20 rfl rfl ?_
        refine wa_aload_n dX10_sendOut_21 rfl rfl ?_
        refine wa_getI (q := (RX10, TX10, 13)) (ci := 10) (k := 10) dX10_sendOut_22 rfl (by decide) wf_X10_67 hxq.1.1 rfl ?_
        rw [hxj q 10 hq]
        refine wa_aload_n dX10_sendOut_25 rfl rfl ?_
        refine wa_getI (q := (RX3, TX3, 8)) (ci := 3) (k := 0) dX10_sendOut_26 rfl (by decide) wf_X10_223 hpq.1 rfl ?_
        rw [so_j hd hq2 hq (by decide)]
        refine wa_iadd dX10_sendOut_29 ?_
        refine wa_callV  (q := (RX3, TX3, 8)) (As := [.int (mm_I M x 10 + mm_I M (pa q) 0)]) dX10_sendOut_30 lk_X10_83 rfl rfl hpq.1 rfl rfl (Nat.le_of_ble_eq_true rfl) (Nat.le_of_eq (Nat.zero_add _)) (Nat.le_of_eq (Nat.zero_add _)) (k_X3_send (mm_I M x 10 + mm_I M (pa q) 0) T hpq ?_ hT30 ?_)
        · rw [so_5 hd hq2 q hq, if_neg (by omega)]; exact hS q hq2
        refine wa_iinc (v := nI (q + 1)) dX10_sendOut_33 rfl (ni_i1 q) (by decide) rfl rfl ?_
        refine wa_goto (tgt := 2) dX10_sendOut_36 (by decide) ?_
        exact wa_set0 2 (ih (P - (q + 1)) (by omega) (q + 1) rfl (by omega))
  refine wa_iconst (v := 0) dX10_sendOut_0 (by decide) ?_
  refine wa_istore_n dX10_sendOut_1 (by decide) rfl rfl ?_
  exact loop P 0 rfl (Nat.zero_le _)
