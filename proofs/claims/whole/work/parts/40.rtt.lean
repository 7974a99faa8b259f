/-! tests and terms of the class -/
def tf_ (M : mm_M) (a : Nat) (q : ps_T) : Prop := mm_I M a 0 = q.1 ∧ mm_I M a 1 = q.2.1 ∧ mm_I M a 2 = q.2.2
theorem tf_3 (M : mm_M) (a : Nat) (u v w : Int32) : tf_ (mm_sI (mm_sI (mm_sI M a 0 u) a 1 v) a 2 w) a (u, v, w) := by
  refine ⟨?_, ?_, ?_⟩ <;> simp [mm_I_sI]
def rd_res (L : Nat → Int32) : (Int32 × Nat) ⊕ (ps_T × Nat) → (Int32 × Int32) ⊕ Nat
  | .inl q => .inl (q.1, L q.2)
  | .inr q => .inr q.2
def rd_ts (K L V : Nat → Int32) (c : Nat) : (Int32 × Int32) ⊕ Nat → (Int32 × Int32) ⊕ Nat
  | .inl q => .inl q
  | .inr i => rd_res L (ps_test K V c i)
def rd_tm (K L V : Nat → Int32) (c : Nat) : (Int32 × Int32) ⊕ Nat → (Int32 × Int32) ⊕ Nat
  | .inl q => .inl q
  | .inr i => rd_res L (ps_term K V c i)
def rd_q4 (K L : Nat → Int32) (c : Nat) : (Int32 × Int32) ⊕ Nat → (Int32 × Int32) ⊕ Nat
  | .inl q => .inl q
  | .inr i => if pn_ (K i) = 0 ∧ c = 4 then .inl (4, L i) else .inr i
theorem ts_ok {K L V : Nat → Int32} {c : Nat} {σ : (Int32 × Int32) ⊕ Nat} {sg nm : Int32} (hs : sg = 60 ∨ sg = 62 ∨ sg = 61) (hg : ∀ j, rd_nn K L (rd_q4 K L c σ) = .inr j → sg = K j) (hn : ∀ i, rd_q4 K L c σ = .inr i → nm = K i) :
    rd_nd K L 2 (rd_sp K sg (rd_nn K L (rd_q4 K L c σ))) = rd_ts K L V c σ ∧ ∀ i q j, σ = .inr i → ps_test K V c i = .inr (q, j) → ∀ v, (∀ u, rd_sp K sg (rd_nn K L (rd_q4 K L c σ)) = .inr u → v = V u) → (nm, sg, v) = q := by
  cases σ with
  | inl q => exact ⟨rfl, fun i q j e => by cases e⟩
  | inr i =>
    by_cases h0 : pn_ (K i) = 0
    · by_cases h4 : c = 4
      · refine ⟨by simp [rd_q4, rd_nn, rd_sp, rd_nd, rd_ts, ps_test, rd_res, h0, h4], fun i' q j e1 e2 => ?_⟩
        cases e1
        simp [ps_test, h0, h4] at e2
      · have hq : rd_q4 K L c (.inr i) = .inr i := by simp [rd_q4, h4]
        have hg1 := hg (i + 1) (by simp [hq, rd_nn, h0])
        have hn1 := hn i hq
        subst hg1
        have e1 : rd_sp K (K (i + 1)) (rd_nn K L (rd_q4 K L c (.inr i))) = .inr (i + 2) := by simp [hq, rd_nn, rd_sp, h0]
        rw [e1]
        by_cases h2 : K (i + 2) = 2
        · refine ⟨by simp [rd_nd, rd_ts, ps_test, rd_res, h0, h4, h2, hs], fun i' q j e2 e3 v hv => ?_⟩
          cases e2
          have hv2 := hv _ rfl
          simp [ps_test, h0, h4, h2, hs] at e3
          rw [← e3.1, hn1, hv2]
        · refine ⟨by simp [rd_nd, rd_ts, ps_test, rd_res, h0, h4, h2, hs], fun i' q j e2 e3 => ?_⟩
          cases e2
          simp [ps_test, h0, h4, h2, hs] at e3
    · refine ⟨by simp [rd_q4, rd_nn, rd_sp, rd_nd, rd_ts, ps_test, rd_res, h0], fun i' q j e1 e2 => ?_⟩
      cases e1
      simp [ps_test, h0] at e2
theorem ts_bad {K L V : Nat → Int32} {c : Nat} {σ : (Int32 × Int32) ⊕ Nat} {sg nm : Int32} (hs : ¬ (sg = 60 ∨ sg = 62 ∨ sg = 61)) (hg : ∀ j, rd_nn K L (rd_q4 K L c σ) = .inr j → sg = K j) :
    rd_nd K L 2 (rd_sp K sg (rd_bl L 1 (rd_nn K L (rd_q4 K L c σ)))) = rd_ts K L V c σ ∧ ∀ i q j, σ = .inr i → ps_test K V c i = .inr (q, j) → ∀ v, (∀ u, rd_sp K sg (rd_bl L 1 (rd_nn K L (rd_q4 K L c σ))) = .inr u → v = V u) → (nm, sg, v) = q := by
  cases σ with
  | inl q => exact ⟨rfl, fun i q j e => by cases e⟩
  | inr i =>
    by_cases h0 : pn_ (K i) = 0
    · by_cases h4 : c = 4
      · refine ⟨by simp [rd_q4, rd_nn, rd_bl, rd_sp, rd_nd, rd_ts, ps_test, rd_res, h0, h4], fun i' q j e1 e2 => ?_⟩
        cases e1
        simp [ps_test, h0, h4] at e2
      · have hg1 := hg (i + 1) (by simp [rd_q4, rd_nn, h0, h4])
        subst hg1
        refine ⟨by simp [rd_q4, rd_nn, rd_bl, rd_sp, rd_nd, rd_ts, ps_test, rd_res, h0, h4, hs], fun i' q j e1 e2 => ?_⟩
        cases e1
        simp [ps_test, h0, h4, hs] at e2
    · refine ⟨by simp [rd_q4, rd_nn, rd_bl, rd_sp, rd_nd, rd_ts, ps_test, rd_res, h0], fun i' q j e1 e2 => ?_⟩
      cases e1
      simp [ps_test, h0] at e2

theorem kr_readTest {G : mm_G} {d : Nat} {Q : Option Value → mm_M → Prop} {M : mm_M} {r t m : Nat} {K L V : Nat → Int32} {σ : (Int32 × Int32) ⊕ Nat} (c : Nat) (hx : rx_ m K L V M r t σ) (hc4 : c ≤ 4) (hQ : ∀ (a : Nat) (M' : mm_M), nw_ (fun z => z = r) (fun _ => False) M M' → rx_ m K L V M' r t (rd_ts K L V c σ) → (∀ u, ¬ mm_sh M a = some u) → mm_sh M' a = some (.inl 8) → (∀ i q j, σ = .inr i → ps_test K V c i = .inr (q, j) → tf_ M' a q) → Q (some (.ref a)) M') : ma_ G jX4_readTest (d + 2) 1 3 [.ref r, .int (nI c)] M Q := by
  refine ma_of [some (.ref r), some (.int (nI c)), none, none] (by decide) rfl (Nat.le_of_ble_eq_true rfl) ?_
  have s53 : ∀ (M3 : mm_M) (σ3 : (Int32 × Int32) ⊕ Nat) (nm sg : Int32), nw_ (fun z => z = r) (fun _ => False) M M3 → rx_ m K L V M3 r t σ3 → (∀ i, σ3 = .inr i → K i = sg → ¬ sg = 0) → (rd_nd K L 2 (rd_sp K sg σ3) = rd_ts K L V c σ ∧ ∀ i q j, σ = .inr i → ps_test K V c i = .inr (q, j) → ∀ v, (∀ u, rd_sp K sg σ3 = .inr u → v = V u) → (nm, sg, v) = q) → wa_ 0 G jX4_readTest (d + 2) 1 3 Q 1 3 M3 53 [some (.ref r), some (.int (nI c)), some (.int nm), some (.int sg)] [] := by
    intro M3 σ3 nm sg hn3 hx3 hw hE
    refine wa_aload_n dX4_readTest_53 rfl rfl ?_
    refine wa_iload_n dX4_readTest_54 rfl ?_
    refine wa_callV  (q := (RX4, TX4, 6)) (As := [.int sg]) dX4_readTest_55 lk_X4_31 rfl rfl hx3.2.1.1 rfl rfl (Nat.le_of_ble_eq_true rfl) (Nat.le_of_eq (Nat.zero_add _)) (Nat.le_of_eq (Nat.zero_add _)) (kr_skipP sg hx3 hw (fun w9 M4 hn4 hx4 => ?_))
    refine wa_pop dX4_readTest_58 rfl ?_
    refine wa_new (n := 3) (q := (RX8, TX8, 3)) (ci := 8) dX4_readTest_59 rfl rfl wc_X4_73 wt_X8 wn_X8 (fun hext5 => ?_)
    have hx5 := rx_new hext5 hx4
    have hz5 := mm_sh_z M4 (.inl 8)
    refine wa_dup dX4_readTest_62 rfl ?_
    refine wa_iload_n dX4_readTest_63 rfl ?_
    refine wa_iload_n dX4_readTest_64 rfl ?_
    refine wa_aload_n dX4_readTest_65 rfl rfl ?_
    refine wa_iconst (v := 2) dX4_readTest_66 (by decide) ?_
    refine wa_callV  (q := (RX4, TX4, 6)) (As := [.int 2]) dX4_readTest_67 lk_X4_45 rfl rfl hx5.2.1.1 rfl rfl (Nat.le_of_ble_eq_true rfl) (Nat.le_of_eq (Nat.zero_add _)) (Nat.le_of_eq (Nat.zero_add _)) (kr_need 2 hx5 (fun _ _ _ => by decide) (fun v M6 hn6 hx6 hv6 => ?_))
    have hsa := nw_sh hn6 hz5
    refine wa_callI  (As := [.int nm, .int sg, .int v]) dX4_readTest_70 lk_X4_75 rfl rfl rfl (Nat.le_of_ble_eq_true rfl) (Nat.le_of_eq (Nat.zero_add _)) (Nat.le_of_eq (Nat.zero_add _)) (k_X8_init nm sg v hsa ?_)
    exact wa_aret dX4_readTest_73 rfl (Or.inl ⟨_, rfl⟩) rfl (by
      have hfr := nw_fresh (nw_tr hn3 hn4) hext5
      refine hQ _ _ (nw_I (nw_I (nw_I (nw_tr (nw_new (nw_tr hn3 hn4) hext5) hn6) (Or.inr hfr)) (Or.inr hfr)) (Or.inr hfr)) ?_ hfr hsa (fun i q j e1 e2 => ?_)
      · rw [← hE.1]
        exact rx_oI hsa (by decide) (rx_oI hsa (by decide) (rx_oI hsa (by decide) hx6))
      · rw [← hE.2 i q j e1 e2 v hv6]
        exact tf_3 _ _ _ _ _)
  have s20 : ∀ (M1 : mm_M), nw_ (fun z => z = r) (fun _ => False) M M1 → rx_ m K L V M1 r t (rd_q4 K L c σ) → wa_ 0 G jX4_readTest (d + 2) 1 3 Q 1 3 M1 20 [some (.ref r), some (.int (nI c)), none, none] [] := by
    intro M1 hn1 hx1
    refine wa_aload_n dX4_readTest_20 rfl rfl ?_
    refine wa_callV  (q := (RX4, TX4, 6)) (As := []) dX4_readTest_21 lk_X4_69 rfl rfl hx1.2.1.1 rfl rfl (Nat.le_of_ble_eq_true rfl) (Nat.le_of_eq (Nat.zero_add _)) (Nat.le_of_eq (Nat.zero_add _)) (kr_needName hx1 (fun nm M2 hn2 hx2 hnm => ?_))
    refine wa_istore_n dX4_readTest_24 (by decide) rfl rfl ?_
    refine wa_aload_n dX4_readTest_25 rfl rfl ?_
    refine wa_getI (q := (RX4, TX4, 6)) (ci := 4) (k := 4) dX4_readTest_26 rfl (by decide) wf_X4_21 hx2.2.1.1 rfl ?_
    obtain ⟨sg, hsg⟩ : ∃ sg, sg = mm_I M2 r 4 := ⟨_, rfl⟩
    have hg : ∀ j, rd_nn K L (rd_q4 K L c σ) = .inr j → sg = K j := fun j e => hsg.trans (rx_v hx2 j e).2
    rw [← hsg]
    refine wa_istore_n dX4_readTest_29 (by decide) rfl rfl ?_
    refine wa_iload_n dX4_readTest_30 rfl ?_
    refine wa_bipush (v := 60) dX4_readTest_31 (by decide) ?_
    refine wa_icmp_eq (tgt := 53) dX4_readTest_33 (by decide) (fun hT33 => ?_) (fun hF33 => ?_)
    · exact s53 M2 _ nm sg (nw_tr hn1 hn2) hx2 (fun i e k e0 => by first | exact absurd (e0.symm.trans hT33) (by decide) | exact absurd (e0.symm.trans hT39) (by decide) | exact absurd (e0.symm.trans hT45) (by decide)) (ts_ok (by first | exact Or.inl hT33 | exact Or.inr (Or.inl hT39) | exact Or.inr (Or.inr hT45)) hg hnm)
    · refine wa_iload_n dX4_readTest_36 rfl ?_
      refine wa_bipush (v := 62) dX4_readTest_37 (by decide) ?_
      refine wa_icmp_eq (tgt := 53) dX4_readTest_39 (by decide) (fun hT39 => ?_) (fun hF39 => ?_)
      · exact s53 M2 _ nm sg (nw_tr hn1 hn2) hx2 (fun i e k e0 => by first | exact absurd (e0.symm.trans hT33) (by decide) | exact absurd (e0.symm.trans hT39) (by decide) | exact absurd (e0.symm.trans hT45) (by decide)) (ts_ok (by first | exact Or.inl hT33 | exact Or.inr (Or.inl hT39) | exact Or.inr (Or.inr hT45)) hg hnm)
      · refine wa_iload_n dX4_readTest_42 rfl ?_
        refine wa_bipush (v := 61) dX4_readTest_43 (by decide) ?_
        refine wa_icmp_eq (tgt := 53) dX4_readTest_45 (by decide) (fun hT45 => ?_) (fun hF45 => ?_)
        · exact s53 M2 _ nm sg (nw_tr hn1 hn2) hx2 (fun i e k e0 => by first | exact absurd (e0.symm.trans hT33) (by decide) | exact absurd (e0.symm.trans hT39) (by decide) | exact absurd (e0.symm.trans hT45) (by decide)) (ts_ok (by first | exact Or.inl hT33 | exact Or.inr (Or.inl hT39) | exact Or.inr (Or.inr hT45)) hg hnm)
        · refine wa_aload_n dX4_readTest_48 rfl rfl ?_
          refine wa_iconst (v := 1) dX4_readTest_49 (by decide) ?_
          refine wa_callV  (q := (RX4, TX4, 6)) (As := [.int 1]) dX4_readTest_50 lk_X4_41 rfl rfl hx2.2.1.1 rfl rfl (Nat.le_of_ble_eq_true rfl) (Nat.le_of_eq (Nat.zero_add _)) (Nat.le_of_eq (Nat.zero_add _)) (kr_blame 1 (by decide) hx2 (fun M3 hn3 hx3 => ?_))
          exact s53 M3 _ nm sg (nw_tr (nw_tr hn1 hn2) hn3) hx3 (fun i e => by cases h9 : rd_nn K L (rd_q4 K L c σ) <;> rw [h9] at e <;> cases e) (ts_bad (fun h => by rcases h with h | h | h <;> first | exact hF33 h | exact hF39 h | exact hF45 h) hg)
  refine wa_aload_n dX4_readTest_0 rfl rfl ?_
  refine wa_getI (q := (RX4, TX4, 6)) (ci := 4) (k := 4) dX4_readTest_1 rfl (by decide) wf_X4_21 hx.2.1.1 rfl ?_
  refine wa_callS (As := [.int (mm_I M r 4)]) dX4_readTest_4 lk_X4_66 rfl rfl (Nat.le_of_ble_eq_true rfl) (Nat.le_of_eq (Nat.zero_add _)) (Nat.le_of_eq (Nat.zero_add _)) (k_X4_isName (mm_I M r 4) (fun hN => ?_) (fun hN => ?_))
  · refine wa_if_eq (tgt := 20) dX4_readTest_7 (by decide) (fun h9 => absurd h9 (by decide)) (fun _ => ?_)
    refine wa_iload_n dX4_readTest_10 rfl ?_
    refine wa_iconst (v := 4) dX4_readTest_11 (by decide) ?_
    refine wa_icmp_lt (tgt := 20) dX4_readTest_12 (by decide) (fun hT12 => ?_) (fun hF12 => ?_)
    · refine s20 M (nw_rf _ _ _) ?_
      rw [show rd_q4 K L c σ = σ from by
        cases σ with
        | inl q => rfl
        | inr i =>
          refine if_neg (fun h => ?_)
          first
            | exact hN (by rw [(rx_v hx i rfl).2]; exact nmq_pn.mpr h.1)
            | exact absurd (ni_lt (b := 4) hT12 (by omega) (by decide)) (by omega)]
      exact hx
    · refine wa_aload_n dX4_readTest_15 rfl rfl ?_
      refine wa_iconst (v := 4) dX4_readTest_16 (by decide) ?_
      refine wa_callV  (q := (RX4, TX4, 6)) (As := [.int 4]) dX4_readTest_17 lk_X4_41 rfl rfl hx.2.1.1 rfl rfl (Nat.le_of_ble_eq_true rfl) (Nat.le_of_eq (Nat.zero_add _)) (Nat.le_of_eq (Nat.zero_add _)) (kr_blame 4 (by decide) hx (fun M1 hn1 hx1 => ?_))
      refine s20 M1 hn1 ?_
      rw [show rd_q4 K L c σ = rd_bl L 4 σ from by
        cases σ with
        | inl q => rfl
        | inr i => exact if_pos ⟨nmq_pn.mp (by rw [← (rx_v hx i rfl).2]; exact hN), by have := ni_nlt (b := 4) hF12 (by omega) (by decide); omega⟩]
      exact hx1
  · refine wa_if_eq (tgt := 20) dX4_readTest_7 (by decide) (fun _ => ?_) (fun h9 => absurd h9 (by decide))
    refine s20 M (nw_rf _ _ _) ?_
    rw [show rd_q4 K L c σ = σ from by
      cases σ with
      | inl q => rfl
      | inr i =>
        refine if_neg (fun h => ?_)
        first
          | exact hN (by rw [(rx_v hx i rfl).2]; exact nmq_pn.mpr h.1)
          | exact absurd (ni_lt (b := 4) hT12 (by omega) (by decide)) (by omega)]
    exact hx

/-- what is left of a term behind its factor -/
def ps_nd (K V : Nat → Int32) (fa : Int32) (j : Nat) : (Int32 × Nat) ⊕ (ps_T × Nat) := if ¬ pn_ (K j) = 0 then .inl (pn_ (K j), j) else ps_div K V fa (K j) (j + 1)
/-- either the fault is known, or the rest decides -/
def tm_H (K L V : Nat → Int32) (c : Nat) (σ σ3 : (Int32 × Int32) ⊕ Nat) (g : Nat → (Int32 × Nat) ⊕ (ps_T × Nat)) : Prop := (∃ f, σ3 = .inl f ∧ rd_tm K L V c σ = .inl f) ∨ ∃ i j, σ = .inr i ∧ σ3 = .inr j ∧ ps_term K V c i = g j
theorem tm_end {K L V : Nat → Int32} {c : Nat} {σ σ3 : (Int32 × Int32) ⊕ Nat} {g : Nat → (Int32 × Nat) ⊕ (ps_T × Nat)} (h : tm_H K L V c σ σ3 g) {σ4 : (Int32 × Int32) ⊕ Nat} {q : ps_T} (h1 : ∀ f, σ3 = .inl f → σ4 = .inl f) (h2 : ∀ j, σ3 = .inr j → σ4 = rd_res L (g j) ∧ ∀ q' j', g j = .inr (q', j') → q = q') :
    σ4 = rd_tm K L V c σ ∧ ∀ i q' j, σ = .inr i → ps_term K V c i = .inr (q', j) → q = q' := by
  rcases h with ⟨f, e1, e2⟩ | ⟨i, j, e1, e2, e3⟩
  · refine ⟨(h1 f e1).trans e2.symm, fun i q' j e3 e4 => ?_⟩
    subst e3
    have e5 : rd_tm K L V c (.inr i) = .inr j := by show rd_res L (ps_term K V c i) = _; rw [e4]; rfl
    rw [e5] at e2
    cases e2
  · subst e1
    obtain ⟨g1, g2⟩ := h2 j e2
    refine ⟨?_, fun i' q' j' e4 e5 => ?_⟩
    · rw [g1]
      show _ = rd_res L (ps_term K V c i)
      rw [e3]
    · cases e4
      exact g2 q' j' (e3.symm.trans e5)

theorem kr_readTerm {G : mm_G} {d : Nat} {Q : Option Value → mm_M → Prop} {M : mm_M} {r t m : Nat} {K L V : Nat → Int32} {σ : (Int32 × Int32) ⊕ Nat} (c : Nat) (hx : rx_ m K L V M r t σ) (hc4 : c ≤ 4) (hQ : ∀ (a : Nat) (M' : mm_M), nw_ (fun z => z = r) (fun _ => False) M M' → rx_ m K L V M' r t (rd_tm K L V c σ) → (∀ u, ¬ mm_sh M a = some u) → mm_sh M' a = some (.inl 7) → (∀ i q j, σ = .inr i → ps_term K V c i = .inr (q, j) → tf_ M' a q) → Q (some (.ref a)) M') : ma_ G jX4_readTerm (d + 2) 1 3 [.ref r, .int (nI c)] M Q := by
  refine ma_of [some (.ref r), some (.int (nI c)), none, none, none] (by decide) rfl (Nat.le_of_ble_eq_true rfl) ?_
  have s124 : ∀ (nb : Value) (M3 : mm_M) (σ3 : (Int32 × Int32) ⊕ Nat) (fa nm : Int32), nw_ (fun z => z = r) (fun _ => False) M M3 → rx_ m K L V M3 r t σ3 → (rd_nd K L 2 σ3 = rd_tm K L V c σ ∧ ∀ i q j, σ = .inr i → ps_term K V c i = .inr (q, j) → ∀ v, (∀ u, σ3 = .inr u → v = V u) → (fa, nm, v) = q) → wa_ 0 G jX4_readTerm (d + 2) 1 3 Q 1 3 M3 124 [some (.ref r), some (.int (nI c)), some nb, some (.int fa), some (.int nm)] [] := by
    intro nb M3 σ3 fa nm hn3 hx3 hE
    refine wa_new (n := 3) (q := (RX7, TX7, 3)) (ci := 7) dX4_readTerm_124 rfl rfl wc_X4_86 wt_X7 wn_X7 (fun hext5 => ?_)
    have hx5 := rx_new hext5 hx3
    have hz5 := mm_sh_z M3 (.inl 7)
    refine wa_dup dX4_readTerm_127 rfl ?_
    refine wa_iload_n dX4_readTerm_128 rfl ?_
    refine wa_iload dX4_readTerm_129 rfl ?_
    refine wa_aload_n dX4_readTerm_131 rfl rfl ?_
    refine wa_iconst (v := 2) dX4_readTerm_132 (by decide) ?_
    refine wa_callV  (q := (RX4, TX4, 6)) (As := [.int 2]) dX4_readTerm_133 lk_X4_45 rfl rfl hx5.2.1.1 rfl rfl (Nat.le_of_ble_eq_true rfl) (Nat.le_of_eq (Nat.zero_add _)) (Nat.le_of_eq (Nat.zero_add _)) (kr_need 2 hx5 (fun _ _ _ => by decide) (fun v M6 hn6 hx6 hv6 => ?_))
    have hsa := nw_sh hn6 hz5
    refine wa_callI  (As := [.int fa, .int nm, .int v]) dX4_readTerm_136 lk_X4_88 rfl rfl rfl (Nat.le_of_ble_eq_true rfl) (Nat.le_of_eq (Nat.zero_add _)) (Nat.le_of_eq (Nat.zero_add _)) (k_X7_init fa nm v hsa ?_)
    exact wa_aret dX4_readTerm_139 rfl (Or.inl ⟨_, rfl⟩) rfl (by
      have hfr := nw_fresh hn3 hext5
      refine hQ _ _ (nw_I (nw_I (nw_I (nw_tr (nw_new hn3 hext5) hn6) (Or.inr hfr)) (Or.inr hfr)) (Or.inr hfr)) ?_ hfr hsa (fun i q j e1 e2 => ?_)
      · rw [← hE.1]
        exact rx_oI hsa (by decide) (rx_oI hsa (by decide) (rx_oI hsa (by decide) hx6))
      · rw [← hE.2 i q j e1 e2 v hv6]
        exact tf_3 _ _ _ _ _)
  have s77 : ∀ (nb : Value) (M3 : mm_M) (σ3 : (Int32 × Int32) ⊕ Nat) (fa : Int32), nw_ (fun z => z = r) (fun _ => False) M M3 → rx_ m K L V M3 r t σ3 → tm_H K L V c σ σ3 (ps_nd K V fa) → wa_ 0 G jX4_readTerm (d + 2) 1 3 Q 1 3 M3 77 [some (.ref r), some (.int (nI c)), some nb, some (.int fa), none] [] := by
    intro nb M3 σ3 fa hn3 hx3 hH
    refine wa_aload_n dX4_readTerm_77 rfl rfl ?_
    refine wa_callV  (q := (RX4, TX4, 6)) (As := []) dX4_readTerm_78 lk_X4_69 rfl rfl hx3.2.1.1 rfl rfl (Nat.le_of_ble_eq_true rfl) (Nat.le_of_eq (Nat.zero_add _)) (Nat.le_of_eq (Nat.zero_add _)) (kr_needName hx3 (fun nm M4 hn4 hx4 hnm => ?_))
    refine wa_istore dX4_readTerm_81 (by decide) rfl rfl ?_
    refine wa_aload_n dX4_readTerm_83 rfl rfl ?_
    refine wa_bipush (v := 47) dX4_readTerm_84 (by decide) ?_
    refine wa_callV  (q := (RX4, TX4, 6)) (As := [.int 47]) dX4_readTerm_86 lk_X4_31 rfl rfl hx4.2.1.1 rfl rfl (Nat.le_of_ble_eq_true rfl) (Nat.le_of_eq (Nat.zero_add _)) (Nat.le_of_eq (Nat.zero_add _)) (kr_skip 47 hx4 (fun _ _ _ => by decide) (fun i5 M5 e5 hk5 hn5 hx5 => ?_) (fun hk5 => ?_))
    · refine wa_if_ne (tgt := 104) dX4_readTerm_89 (by decide) (fun _ => ?_) (fun h9 => absurd h9 (by decide))
      have hj : ∃ j0, σ3 = .inr j0 ∧ i5 = j0 + 1 ∧ pn_ (K j0) = 0 := by
        cases σ3 with
        | inl q => cases e5
        | inr j0 =>
          by_cases h0 : pn_ (K j0) = 0
          · rw [show rd_nn K L (.inr j0) = .inr (j0 + 1) from if_pos h0] at e5
            cases e5
            exact ⟨j0, rfl, rfl, h0⟩
          · rw [show rd_nn K L (.inr j0) = .inl (pn_ (K j0), L j0) from if_neg h0] at e5
            cases e5
      obtain ⟨j0, hj1, hj2, hj3⟩ := hj
      have hv5 := rx_v hx5 _ rfl
      have hnm0 := hnm j0 hj1
      refine wa_aload_n dX4_readTerm_104 rfl rfl ?_
      refine wa_getI (q := (RX4, TX4, 6)) (ci := 4) (k := 4) dX4_readTerm_105 rfl (by decide) wf_X4_21 hx5.2.1.1 rfl ?_
      rw [hv5.2]
      refine wa_iconst (v := 2) dX4_readTerm_108 (by decide) ?_
      refine wa_icmp_ne (tgt := 124) dX4_readTerm_109 (by decide) (fun hT109 => ?_) (fun hF109 => ?_)
      · refine s124 nb M5 _ fa nm (nw_tr (nw_tr hn3 hn4) hn5) hx5 ?_
        have hno : K (i5 + 1) = 2 → ¬ V (i5 + 1) = 0 := by
          first
            | exact fun e => absurd e hT109
            | exact fun _ => hT116
        refine ⟨?_, ?_⟩
        · refine (tm_end (σ4 := rd_nd K L 2 (.inr (i5 + 1))) (q := (fa, nm, V (i5 + 1))) hH (fun f e => by rw [hj1] at e; cases e) (fun j e => ?_)).1
          rw [hj1] at e
          cases e
          subst hj2
          by_cases h2 : K (j0 + 1 + 1) = 2
          · have e9 : ps_nd K V fa j0 = .inr ((fa, K j0, V (j0 + 1 + 1)), j0 + 3) := by simp [ps_nd, ps_div, hj3, hk5, h2, hno h2]
            rw [e9]
            exact ⟨if_pos h2, fun q' j' e => by cases e; rw [hnm0]⟩
          · have e9 : ps_nd K V fa j0 = .inl (1, j0 + 1 + 1) := by simp [ps_nd, ps_div, hj3, hk5, h2]
            rw [e9]
            exact ⟨if_neg h2, fun q' j' e => by cases e⟩
        · intro i q j e1 e2 v hv
          have hv2 := hv _ rfl
          subst hv2
          refine (tm_end (σ4 := rd_nd K L 2 (.inr (i5 + 1))) (q := (fa, nm, V (i5 + 1))) hH (fun f e => by rw [hj1] at e; cases e) (fun j e => ?_)).2 i q j e1 e2
          rw [hj1] at e
          cases e
          subst hj2
          by_cases h2 : K (j0 + 1 + 1) = 2
          · have e9 : ps_nd K V fa j0 = .inr ((fa, K j0, V (j0 + 1 + 1)), j0 + 3) := by simp [ps_nd, ps_div, hj3, hk5, h2, hno h2]
            rw [e9]
            exact ⟨if_pos h2, fun q' j' e => by cases e; rw [hnm0]⟩
          · have e9 : ps_nd K V fa j0 = .inl (1, j0 + 1 + 1) := by simp [ps_nd, ps_div, hj3, hk5, h2]
            rw [e9]
            exact ⟨if_neg h2, fun q' j' e => by cases e⟩
      · refine wa_aload_n dX4_readTerm_112 rfl rfl ?_
        refine wa_getI (q := (RX4, TX4, 6)) (ci := 4) (k := 5) dX4_readTerm_113 rfl (by decide) wf_X4_24 hx5.2.1.1 rfl ?_
        rw [hv5.1]
        refine wa_if_ne (tgt := 124) dX4_readTerm_116 (by decide) (fun hT116 => ?_) (fun hF116 => ?_)
        · refine s124 nb M5 _ fa nm (nw_tr (nw_tr hn3 hn4) hn5) hx5 ?_
          have hno : K (i5 + 1) = 2 → ¬ V (i5 + 1) = 0 := by
            first
              | exact fun e => absurd e hT109
              | exact fun _ => hT116
          refine ⟨?_, ?_⟩
          · refine (tm_end (σ4 := rd_nd K L 2 (.inr (i5 + 1))) (q := (fa, nm, V (i5 + 1))) hH (fun f e => by rw [hj1] at e; cases e) (fun j e => ?_)).1
            rw [hj1] at e
            cases e
            subst hj2
            by_cases h2 : K (j0 + 1 + 1) = 2
            · have e9 : ps_nd K V fa j0 = .inr ((fa, K j0, V (j0 + 1 + 1)), j0 + 3) := by simp [ps_nd, ps_div, hj3, hk5, h2, hno h2]
              rw [e9]
              exact ⟨if_pos h2, fun q' j' e => by cases e; rw [hnm0]⟩
            · have e9 : ps_nd K V fa j0 = .inl (1, j0 + 1 + 1) := by simp [ps_nd, ps_div, hj3, hk5, h2]
              rw [e9]
              exact ⟨if_neg h2, fun q' j' e => by cases e⟩
          · intro i q j e1 e2 v hv
            have hv2 := hv _ rfl
            subst hv2
            refine (tm_end (σ4 := rd_nd K L 2 (.inr (i5 + 1))) (q := (fa, nm, V (i5 + 1))) hH (fun f e => by rw [hj1] at e; cases e) (fun j e => ?_)).2 i q j e1 e2
            rw [hj1] at e
            cases e
            subst hj2
            by_cases h2 : K (j0 + 1 + 1) = 2
            · have e9 : ps_nd K V fa j0 = .inr ((fa, K j0, V (j0 + 1 + 1)), j0 + 3) := by simp [ps_nd, ps_div, hj3, hk5, h2, hno h2]
              rw [e9]
              exact ⟨if_pos h2, fun q' j' e => by cases e; rw [hnm0]⟩
            · have e9 : ps_nd K V fa j0 = .inl (1, j0 + 1 + 1) := by simp [ps_nd, ps_div, hj3, hk5, h2]
              rw [e9]
              exact ⟨if_neg h2, fun q' j' e => by cases e⟩
        · refine wa_aload_n dX4_readTerm_119 rfl rfl ?_
          refine wa_iconst (v := 3) dX4_readTerm_120 (by decide) ?_
          refine wa_callV  (q := (RX4, TX4, 6)) (As := [.int 3]) dX4_readTerm_121 lk_X4_41 rfl rfl hx5.2.1.1 rfl rfl (Nat.le_of_ble_eq_true rfl) (Nat.le_of_eq (Nat.zero_add _)) (Nat.le_of_eq (Nat.zero_add _)) (kr_blame 3 (by decide) hx5 (fun M6 hn6 hx6 => ?_))
          refine s124 nb M6 _ fa nm (nw_tr (nw_tr (nw_tr hn3 hn4) hn5) hn6) hx6 ?_
          obtain ⟨g1, g2⟩ := tm_end (σ4 := rd_nd K L 2 (rd_bl L 3 (.inr (i5 + 1)))) (q := (fa, nm, 0)) hH (fun f e => by rw [hj1] at e; cases e) (fun j e => by
            rw [hj1] at e
            cases e
            subst hj2
            have e9 : ps_nd K V fa j0 = .inl (3, j0 + 1 + 1) := by simp [ps_nd, ps_div, hj3, hk5, hF109, hF116]
            rw [e9]
            exact ⟨rfl, fun q' j' e => by cases e⟩)
          exact ⟨g1, fun i q j e1 e2 v hv => by
            have := g1
            rw [e1] at this
            have e7 : rd_tm K L V c (.inr i) = .inr j := by show rd_res L (ps_term K V c i) = _; rw [e2]; rfl
            rw [e7] at this
            cases this⟩
    · refine wa_if_ne (tgt := 104) dX4_readTerm_89 (by decide) (fun h9 => absurd h9 (by decide)) (fun _ => ?_)
      refine wa_new (n := 3) (q := (RX7, TX7, 3)) (ci := 7) dX4_readTerm_92 rfl rfl wc_X4_86 wt_X7 wn_X7 (fun hext7 => ?_)
      have hx7 := rx_new hext7 hx4
      have hz7 := mm_sh_z M4 (.inl 7)
      have hsa := hz7
      refine wa_dup dX4_readTerm_95 rfl ?_
      refine wa_iload_n dX4_readTerm_96 rfl ?_
      refine wa_iload dX4_readTerm_97 rfl ?_
      refine wa_iconst (v := 1) dX4_readTerm_99 (by decide) ?_
      refine wa_callI  (As := [.int fa, .int nm, .int 1]) dX4_readTerm_100 lk_X4_88 rfl rfl rfl (Nat.le_of_ble_eq_true rfl) (Nat.le_of_eq (Nat.zero_add _)) (Nat.le_of_eq (Nat.zero_add _)) (k_X7_init fa nm 1 hsa ?_)
      exact wa_aret dX4_readTerm_103 rfl (Or.inl ⟨_, rfl⟩) rfl (by
      have hE := tm_end (σ4 := rd_nn K L σ3) (q := (fa, nm, 1)) hH (fun f e => by rw [e]; rfl) (fun j e => by
        have hk6 := hk5
        rw [e] at hk6
        have hnm0 := hnm j e
        rw [e]
        by_cases h0 : pn_ (K j) = 0
        · have e8 : rd_nn K L (.inr j) = .inr (j + 1) := if_pos h0
          have h47 := hk6 _ e8
          have e9 : ps_nd K V fa j = .inr ((fa, K j, 1), j + 1) := by simp [ps_nd, ps_div, h0, h47]
          rw [e9]
          exact ⟨e8, fun q' j' e => by cases e; rw [hnm0]⟩
        · have e9 : ps_nd K V fa j = .inl (pn_ (K j), j) := by simp [ps_nd, h0]
          rw [e9]
          exact ⟨if_neg h0, fun q' j' e => by cases e⟩)
      have hfr := nw_fresh (nw_tr hn3 hn4) hext7
      refine hQ _ _ (nw_I (nw_I (nw_I (nw_new (nw_tr hn3 hn4) hext7) (Or.inr hfr)) (Or.inr hfr)) (Or.inr hfr)) ?_ hfr hsa (fun i q j e1 e2 => ?_)
      · rw [← hE.1]
        exact rx_oI hsa (by decide) (rx_oI hsa (by decide) (rx_oI hsa (by decide) hx7))
      · rw [← hE.2 i q j e1 e2]
        exact tf_3 _ _ _ _ _)
  have s38n : ∀ (M1 : mm_M) (σ1 : (Int32 × Int32) ⊕ Nat), nw_ (fun z => z = r) (fun _ => False) M M1 → rx_ m K L V M1 r t σ1 → ((∃ f, σ1 = .inl f ∧ rd_tm K L V c σ = .inl f) ∨ ∃ i, σ = .inr i ∧ σ1 = .inr i ∧ K i = 2 ∧ ¬ c = 4) → wa_ 0 G jX4_readTerm (d + 2) 1 3 Q 1 3 M1 38 [some (.ref r), some (.int (nI c)), some (.int 1), none, none] [] := by
    intro M1 σ1 hn1 hx1 hor
    refine wa_iload_n dX4_readTerm_38 rfl ?_
    refine wa_if_eq (tgt := 50) dX4_readTerm_39 (by decide) (fun h9 => absurd h9 (by decide)) (fun _ => ?_)
    refine wa_aload_n dX4_readTerm_42 rfl rfl ?_
    refine wa_iconst (v := 2) dX4_readTerm_43 (by decide) ?_
    refine wa_callV  (q := (RX4, TX4, 6)) (As := [.int 2]) dX4_readTerm_44 lk_X4_45 rfl rfl hx1.2.1.1 rfl rfl (Nat.le_of_ble_eq_true rfl) (Nat.le_of_eq (Nat.zero_add _)) (Nat.le_of_eq (Nat.zero_add _)) (kr_need 2 hx1 (fun _ _ _ => by decide) (fun fa M2 hn2 hx2 hfa => ?_))
    refine wa_goto (tgt := 51) dX4_readTerm_47 (by decide) ?_
    refine wa_istore_n dX4_readTerm_51 (by decide) rfl rfl ?_
    refine wa_iload_n dX4_readTerm_52 rfl ?_
    refine wa_if_eq (tgt := 77) dX4_readTerm_53 (by decide) (fun h9 => absurd h9 (by decide)) (fun _ => ?_)
    refine wa_aload_n dX4_readTerm_56 rfl rfl ?_
    refine wa_bipush (v := 42) dX4_readTerm_57 (by decide) ?_
    refine wa_callV  (q := (RX4, TX4, 6)) (As := [.int 42]) dX4_readTerm_59 lk_X4_31 rfl rfl hx2.2.1.1 rfl rfl (Nat.le_of_ble_eq_true rfl) (Nat.le_of_eq (Nat.zero_add _)) (Nat.le_of_eq (Nat.zero_add _)) (kr_skip 42 hx2 (fun _ _ _ => by decide) (fun i3 M3 e3 hk3 hn3 hx3 => ?_) (fun hk3 => ?_))
    · refine wa_if_ne (tgt := 77) dX4_readTerm_62 (by decide) (fun _ => ?_) (fun h9 => absurd h9 (by decide))
      refine s77 _ M3 _ fa (nw_tr (nw_tr hn1 hn2) hn3) hx3 ?_
      rcases hor with ⟨f, e1, e2⟩ | ⟨i, e1, e2, hk2, hc9⟩
      · rw [e1] at e3
        cases e3
      · rw [e2, show rd_nd K L 2 (.inr i) = .inr (i + 1) from if_pos hk2] at e3
        cases e3
        refine Or.inr ⟨i, i + 1 + 1, e1, rfl, ?_⟩
        have hfa2 := hfa i e2
        subst hfa2
        unfold ps_term
        rw [if_pos hk2, if_neg hc9, if_neg (fun h => h hk3)]
        rfl
    · refine wa_if_ne (tgt := 77) dX4_readTerm_62 (by decide) (fun h9 => absurd h9 (by decide)) (fun _ => ?_)
      refine wa_new (n := 3) (q := (RX7, TX7, 3)) (ci := 7) dX4_readTerm_65 rfl rfl wc_X4_86 wt_X7 wn_X7 (fun hext7 => ?_)
      have hx7 := rx_new hext7 hx2
      have hz7 := mm_sh_z M2 (.inl 7)
      have hsa := hz7
      refine wa_dup dX4_readTerm_68 rfl ?_
      refine wa_iload_n dX4_readTerm_69 rfl ?_
      refine wa_bipush (v := 12) dX4_readTerm_70 (by decide) ?_
      refine wa_iconst (v := 1) dX4_readTerm_72 (by decide) ?_
      refine wa_callI  (As := [.int fa, .int 12, .int 1]) dX4_readTerm_73 lk_X4_88 rfl rfl rfl (Nat.le_of_ble_eq_true rfl) (Nat.le_of_eq (Nat.zero_add _)) (Nat.le_of_eq (Nat.zero_add _)) (k_X7_init fa 12 1 hsa ?_)
      exact wa_aret dX4_readTerm_76 rfl (Or.inl ⟨_, rfl⟩) rfl (by
      have hE := tm_end (K := K) (L := L) (V := V) (c := c) (σ := σ) (σ3 := σ1) (g := fun i => ps_term K V c i) (σ4 := rd_nd K L 2 σ1) (q := (fa, 12, 1)) (by
        rcases hor with ⟨f, e1, e2⟩ | ⟨i, e1, e2, hk2, hc9⟩
        · exact Or.inl ⟨f, e1, e2⟩
        · exact Or.inr ⟨i, i, e1, e2, rfl⟩) (fun f e => by rw [e]; rfl) (fun j e => by
        rcases hor with ⟨f, e1, e2⟩ | ⟨i, e1, e2, hk2, hc9⟩
        · rw [e1] at e; cases e
        · rw [e2] at e
          cases e
          have hk4 := hk3 (j + 1) (by rw [e2]; exact if_pos hk2)
          have e9 : ps_term K V c j = .inr ((V j, 12, 1), j + 1) := by simp [ps_term, hk2, hc9, hk4]
          rw [e9, e2]
          exact ⟨if_pos hk2, fun q' j' e => by cases e; rw [hfa j e2]⟩)
      have hfr := nw_fresh (nw_tr hn1 hn2) hext7
      refine hQ _ _ (nw_I (nw_I (nw_I (nw_new (nw_tr hn1 hn2) hext7) (Or.inr hfr)) (Or.inr hfr)) (Or.inr hfr)) ?_ hfr hsa (fun i q j e1 e2 => ?_)
      · rw [← hE.1]
        exact rx_oI hsa (by decide) (rx_oI hsa (by decide) (rx_oI hsa (by decide) hx7))
      · rw [← hE.2 i q j e1 e2]
        exact tf_3 _ _ _ _ _)
  have s38z : ∀ (M1 : mm_M) (σ1 : (Int32 × Int32) ⊕ Nat), nw_ (fun z => z = r) (fun _ => False) M M1 → rx_ m K L V M1 r t σ1 → tm_H K L V c σ σ1 (ps_nd K V 1) → wa_ 0 G jX4_readTerm (d + 2) 1 3 Q 1 3 M1 38 [some (.ref r), some (.int (nI c)), some (.int 0), none, none] [] := by
    intro M1 σ1 hn1 hx1 hH
    refine wa_iload_n dX4_readTerm_38 rfl ?_
    refine wa_if_eq (tgt := 50) dX4_readTerm_39 (by decide) (fun _ => ?_) (fun h9 => absurd h9 (by decide))
    refine wa_iconst (v := 1) dX4_readTerm_50 (by decide) ?_
    refine wa_istore_n dX4_readTerm_51 (by decide) rfl rfl ?_
    refine wa_iload_n dX4_readTerm_52 rfl ?_
    refine wa_if_eq (tgt := 77) dX4_readTerm_53 (by decide) (fun _ => ?_) (fun h9 => absurd h9 (by decide))
    exact s77 _ M1 _ 1 hn1 hx1 hH
  refine wa_aload_n dX4_readTerm_0 rfl rfl ?_
  refine wa_getI (q := (RX4, TX4, 6)) (ci := 4) (k := 4) dX4_readTerm_1 rfl (by decide) wf_X4_21 hx.2.1.1 rfl ?_
  refine wa_iconst (v := 2) dX4_readTerm_4 (by decide) ?_
  refine wa_icmp_ne (tgt := 12) dX4_readTerm_5 (by decide) (fun hT5 => ?_) (fun hF5 => ?_)
  · refine wa_iconst (v := 0) dX4_readTerm_12 (by decide) ?_
    refine wa_istore_n dX4_readTerm_13 (by decide) rfl rfl ?_
    refine wa_iload_n dX4_readTerm_14 rfl ?_
    refine wa_if_ne (tgt := 28) dX4_readTerm_15 (by decide) (fun h9 => absurd h9 (by decide)) (fun _ => ?_)
    refine wa_aload_n dX4_readTerm_18 rfl rfl ?_
    refine wa_getI (q := (RX4, TX4, 6)) (ci := 4) (k := 4) dX4_readTerm_19 rfl (by decide) wf_X4_21 hx.2.1.1 rfl ?_
    refine wa_callS (As := [.int (mm_I M r 4)]) dX4_readTerm_22 lk_X4_66 rfl rfl (Nat.le_of_ble_eq_true rfl) (Nat.le_of_eq (Nat.zero_add _)) (Nat.le_of_eq (Nat.zero_add _)) (k_X4_isName (mm_I M r 4) (fun hN => ?_) (fun hN => ?_))
    · refine wa_if_eq (tgt := 38) dX4_readTerm_25 (by decide) (fun h9 => absurd h9 (by decide)) (fun _ => ?_)
      refine wa_iload_n dX4_readTerm_28 rfl ?_
      refine wa_iconst (v := 4) dX4_readTerm_29 (by decide) ?_
      refine wa_icmp_lt (tgt := 38) dX4_readTerm_30 (by decide) (fun hT30 => ?_) (fun hF30 => ?_)
      · refine s38z M _ (nw_rf _ _ _) hx ?_
        cases σ with
        | inl q => exact Or.inl ⟨q, rfl, rfl⟩
        | inr i =>
          refine Or.inr ⟨i, i, rfl, rfl, ?_⟩
          have hk2 : ¬ K i = 2 := fun e => hT5 ((rx_v hx i rfl).2.trans e)
          unfold ps_term
          rw [if_neg hk2]
          first
            | (have hc9 : ¬ c = 4 := by have := ni_lt (b := 4) hT30 (by omega) (by decide); omega
               rw [if_neg hc9]
               rfl)
            | (have hp0 : ¬ pn_ (K i) = 0 := fun e => hN (by rw [(rx_v hx i rfl).2]; exact nmq_pn.mpr e)
               unfold ps_nd
               rw [if_pos hp0, if_pos hp0])
      · refine wa_aload_n dX4_readTerm_33 rfl rfl ?_
        refine wa_iconst (v := 4) dX4_readTerm_34 (by decide) ?_
        refine wa_callV  (q := (RX4, TX4, 6)) (As := [.int 4]) dX4_readTerm_35 lk_X4_41 rfl rfl hx.2.1.1 rfl rfl (Nat.le_of_ble_eq_true rfl) (Nat.le_of_eq (Nat.zero_add _)) (Nat.le_of_eq (Nat.zero_add _)) (kr_blame 4 (by decide) hx (fun M1 hn1 hx1 => ?_))
        refine s38z M1 _ hn1 hx1 (Or.inl ?_)
        have hc9 : c = 4 := by have := ni_nlt (b := 4) hF30 (by omega) (by decide); omega
        cases σ with
        | inl q => exact ⟨q, rfl, rfl⟩
        | inr i =>
          refine ⟨(4, L i), rfl, ?_⟩
          have hk2 : ¬ K i = 2 := fun e => hT5 ((rx_v hx i rfl).2.trans e)
          have hp0 : pn_ (K i) = 0 := nmq_pn.mp (by rw [← (rx_v hx i rfl).2]; exact hN)
          show rd_res L (ps_term K V c i) = _
          simp [ps_term, hk2, hc9, hp0, rd_res]
    · refine wa_if_eq (tgt := 38) dX4_readTerm_25 (by decide) (fun _ => ?_) (fun h9 => absurd h9 (by decide))
      refine s38z M _ (nw_rf _ _ _) hx ?_
      cases σ with
      | inl q => exact Or.inl ⟨q, rfl, rfl⟩
      | inr i =>
        refine Or.inr ⟨i, i, rfl, rfl, ?_⟩
        have hk2 : ¬ K i = 2 := fun e => hT5 ((rx_v hx i rfl).2.trans e)
        unfold ps_term
        rw [if_neg hk2]
        first
          | (have hc9 : ¬ c = 4 := by have := ni_lt (b := 4) hT30 (by omega) (by decide); omega
             rw [if_neg hc9]
             rfl)
          | (have hp0 : ¬ pn_ (K i) = 0 := fun e => hN (by rw [(rx_v hx i rfl).2]; exact nmq_pn.mpr e)
             unfold ps_nd
             rw [if_pos hp0, if_pos hp0])
  · refine wa_iconst (v := 1) dX4_readTerm_8 (by decide) ?_
    refine wa_goto (tgt := 13) dX4_readTerm_9 (by decide) ?_
    refine wa_istore_n dX4_readTerm_13 (by decide) rfl rfl ?_
    refine wa_iload_n dX4_readTerm_14 rfl ?_
    refine wa_if_ne (tgt := 28) dX4_readTerm_15 (by decide) (fun _ => ?_) (fun h9 => absurd h9 (by decide))
    refine wa_iload_n dX4_readTerm_28 rfl ?_
    refine wa_iconst (v := 4) dX4_readTerm_29 (by decide) ?_
    refine wa_icmp_lt (tgt := 38) dX4_readTerm_30 (by decide) (fun hT30 => ?_) (fun hF30 => ?_)
    · refine s38n M _ (nw_rf _ _ _) hx ?_
      have hc9 : ¬ c = 4 := by have := ni_lt (b := 4) hT30 (by omega) (by decide); omega
      cases σ with
      | inl q => exact Or.inl ⟨q, rfl, rfl⟩
      | inr i => exact Or.inr ⟨i, rfl, rfl, (rx_v hx i rfl).2.symm.trans hF5, hc9⟩
    · refine wa_aload_n dX4_readTerm_33 rfl rfl ?_
      refine wa_iconst (v := 4) dX4_readTerm_34 (by decide) ?_
      refine wa_callV  (q := (RX4, TX4, 6)) (As := [.int 4]) dX4_readTerm_35 lk_X4_41 rfl rfl hx.2.1.1 rfl rfl (Nat.le_of_ble_eq_true rfl) (Nat.le_of_eq (Nat.zero_add _)) (Nat.le_of_eq (Nat.zero_add _)) (kr_blame 4 (by decide) hx (fun M1 hn1 hx1 => ?_))
      refine s38n M1 _ hn1 hx1 (Or.inl ?_)
      have hc9 : c = 4 := by have := ni_nlt (b := 4) hF30 (by omega) (by decide); omega
      cases σ with
      | inl q => exact ⟨q, rfl, rfl⟩
      | inr i =>
        refine ⟨(4, L i), rfl, ?_⟩
        have hk2 : K i = 2 := (rx_v hx i rfl).2.symm.trans hF5
        show rd_res L (ps_term K V c i) = _
        simp [ps_term, hk2, hc9, rd_res]
