/-! the calls that ask, part two -/
theorem y0_ {M : mm_M} {y k j : Nat} (h : 0 < k) : mm_I (mm_sI M y 0 0) (y + k) j = mm_I M (y + k) j := mI_na _ _ _ _ _ _ (by omega)
theorem u0_y0 {M : mm_M} {y q t : Nat} : md_u0 (mm_sI M y 0 0) y q t = md_u0 M y q t := by
  unfold md_u0 md_hm
  rw [y0_ (by decide), y0_ (by decide), y0_ (by decide), y0_ (by decide), y0_ (by decide), mI_ne _ _ _ _ _ (by decide)]
theorem u1_y0 {M : mm_M} {y q t : Nat} : md_u1 (mm_sI M y 0 0) y q t = md_u1 M y q t := by
  unfold md_u1 md_hm
  rw [y0_ (by decide), y0_ (by decide), mI_ne _ _ _ _ _ (by decide)]
theorem u2_y0 {M : mm_M} {y q t : Nat} : md_u2 (mm_sI M y 0 0) y q t = md_u2 M y q t := by
  unfold md_u2
  rw [y0_ (by decide), y0_ (by decide), mI_ne _ _ _ _ _ (by decide)]
theorem sm_congr {g h : Nat → Nat} : ∀ n, (∀ i, i < n → g i = h i) → sm_ g n = sm_ h n := by
  intro n
  induction n with
  | zero => intro _; rfl
  | succ n ih => intro e; rw [sm_, sm_, ih (fun i hi => e i (by omega)), e n (by omega)]
theorem si_0 : ∀ n, si_ (fun _ => 0) n = 0 := by
  intro n
  induction n with
  | zero => rfl
  | succ n ih => rw [si_, ih]; rfl
section Q2
variable {M : mm_M} {x y w0 s0 v0 bs L P T td N tp : Nat} {xs : Nat → Int32} {pa : Nat → Nat} {ar : Nat → pr_T} {ta la : Nat → Nat} {tl : Nat → List ps_L} {pp tk pq : Nat → Nat}
theorem ho_y0 {i : Nat} : md_ho (mm_sI M y 0 0) y pq i = md_ho M y pq i := by
  unfold md_ho
  rw [y0_ (by decide), y0_ (by decide)]
theorem hf_y0 (c : RW_ M x y w0 s0 v0 bs L xs P T td N tp pa ar ta la tl pp tk pq) (c0 : RW_ (mm_sI M y 0 0) x y w0 s0 v0 bs L xs P T td N tp pa ar ta la tl pp tk pq) (i : Nat) : ∀ n, n ≤ T → md_hf (mm_sI M y 0 0) y (fun t => (tl t).length) (tn_ tl) (tm_ tl) i n = md_hf M y (fun t => (tl t).length) (tn_ tl) (tm_ tl) i n := by
  intro n
  induction n with
  | zero => intro _; rfl
  | succ n ih =>
    intro hn
    rw [md_hf, md_hf, ih (by omega), md_ft_t c0.2.2.2.1.2.2.1 c0.2.2.2.1.2.1 (by omega), md_ft_t c.2.2.2.1.2.2.1 c.2.2.2.1.2.1 (by omega), y0_ (k := 3) (by decide), y0_ (k := 28) (by decide), y0_ (k := 25) (by decide), y0_ (k := 26) (by decide), y0_ (k := 27) (by decide), y0_ (k := 24) (by decide), y0_ (k := 31) (by decide)]
theorem RW_e (c : RW_ M x y w0 s0 v0 bs L xs P T td N tp pa ar ta la tl pp tk pq) {i : Nat} (hi : i < N) : mm_I (mm_sI M y 0 0) (y + 24) i = mm_I M (pp i) 0 ∧ mm_I (mm_sI M y 0 0) (y + 29) i = mm_I M (pp i) 6 ∧ md_ho (mm_sI M y 0 0) y pq i = kd_ M (pp i) (pa (pq i)) := by
  have h := (RW_n1 c hi).2.2.2.1
  refine ⟨by rw [y0_ (by decide)]; exact h.1, by rw [y0_ (by decide)]; exact h.2.2.2.2.2.1, ?_⟩
  rw [ho_y0, ← RW_kd c hi]
theorem RW_hf (c : RW_ M x y w0 s0 v0 bs L xs P T td N tp pa ar ta la tl pp tk pq) {i : Nat} (hi : i < N) : md_hf (mm_sI M y 0 0) y (fun t => (tl t).length) (tn_ tl) (tm_ tl) i T = hg_ M ta la (pp i) T := by
  rw [hf_y0 c (RW_y0 c) i T (Nat.le_refl _), ← RW_hg c hi]
end Q2

theorem op_under {G : mm_G} {d : Nat} {Q : Option Value → mm_M → Prop} {M : mm_M} {x y w0 s0 v0 bs L P T td N tp : Nat} {xs : Nat → Int32} {pa : Nat → Nat} {ar : Nat → pr_T} {ta la : Nat → Nat} {tl : Nat → List ps_L} {pp tk pq : Nat → Nat}  (c : RW_ M x y w0 s0 v0 bs L xs P T td N tp pa ar ta la tl pp tk pq) (w : Int32) (hK : ∀ (rz : Int32) (M1 : mm_M), mid_ M1 y bs L xs → (∀ (d2 : Nat) (Q2 : Option Value → mm_M → Prop), (∀ M2 : mm_M, Rel_ x y w0 s0 v0 bs L xs M2 → Q2 (some (.int rz)) M2) → ma_ G jX12_under (d2 + 1) 0 0 [.ref y, .int w] M1 Q2) → Q (some (.int rz)) M1) : ma_ G jX10_under (d + 5) 0 0 [.ref x, .int w] M Q := by
  have c0 := RW_y0 c
  have hx := c.1.2.1
  have hm := RW_mid c
  have h7 := RW_T30 c
  have h8 := RW_P8 c
  have h9 := RW_N c
  have htd := RW_td c
  have hout : (w < 0 ∨ 2 < w) → ma_ G jX10_under (d + 5) 0 0 [.ref x, .int w] M Q := fun h => by
    have hn : ∀ j, j < 3 → w = nI j → False := fun j hj e => by
      subst e
      rcases h with h | h
      · exact nI_pos (by omega) h
      · exact absurd (ni_lt (a := 2) h (by decide) (by omega)) (by omega)
    refine k_X10_under w P T pa hx (RW_dP c) (fun _ => 0) (fun _ => hK _ _ hm (fun d2 Q2 h2 => k_X12_under w rfl c0.1.2.2.1 P T td (RW_26 c0) h8 (RW_14 c0) h7 (RW_27 c0) htd (fun _ => h2 _ (RW_Rel c0)) (fun e => (hn 0 (by decide) e).elim) (fun e => (hn 1 (by decide) e).elim) (fun e => (hn 2 (by decide) e).elim))) (fun e => (hn 0 (by decide) e).elim) (fun e => (hn 1 (by decide) e).elim) (fun e => (hn 2 (by decide) e).elim) (fun e => ?_)
    rcases e with e | e | e
    · exact (hn 0 (by decide) e).elim
    · exact (hn 1 (by decide) e).elim
    · exact (hn 2 (by decide) e).elim
  rcases pk_ix w (n := 3) (by decide) with h | h | ⟨j, hj, rfl⟩
  · exact hout (Or.inl h)
  · exact hout (Or.inr (Int32.lt_of_lt_of_le (by decide) h))
  clear hout
  rcases (by omega : j = 0 ∨ j = 1 ∨ j = 2) with rfl | rfl | rfl
  · refine k_X10_under (nI 0) P T pa hx (RW_dP c) (fun i => nI (ct_ (md_u0 M y i) T)) (fun h0 => absurd h0 (by decide)) (fun _ i hi => by rw [Nat.zero_add, RW_10 c, ct_congr T (fun t ht => rp_u0 (RW_rp c hi) htd (RW_27 c) ht)]) (fun e9 => absurd e9 (by decide)) (fun e9 => absurd e9 (by decide)) (fun _ => hK _ _ hm (fun d2 Q2 h2 => k_X12_under (nI 0) rfl c0.1.2.2.1 P T td (RW_26 c0) h8 (RW_14 c0) h7 (RW_27 c0) htd (fun h0 => absurd (by decide) h0) (fun _ => ?_) (fun e9 => absurd e9 (by decide)) (fun e9 => absurd e9 (by decide))))
    rw [sm_congr P (fun q _ => ct_congr T (fun t _ => u0_y0 (M := M) (y := y) (q := q) (t := t))), ← si_sm]
    exact h2 _ (RW_Rel c0)
  · refine k_X10_under (nI 1) P T pa hx (RW_dP c) (fun i => nI (ct_ (md_u1 M y i) T)) (fun h0 => absurd h0 (by decide)) (fun e9 => absurd e9 (by decide)) (fun _ i hi => by rw [Nat.zero_add, RW_10 c, ct_congr T (fun t ht => rp_u1 (RW_rp c hi) htd (RW_27 c) ht)]) (fun e9 => absurd e9 (by decide)) (fun _ => hK _ _ hm (fun d2 Q2 h2 => k_X12_under (nI 1) rfl c0.1.2.2.1 P T td (RW_26 c0) h8 (RW_14 c0) h7 (RW_27 c0) htd (fun h0 => absurd (by decide) h0) (fun e9 => absurd e9 (by decide)) (fun _ => ?_) (fun e9 => absurd e9 (by decide))))
    rw [sm_congr P (fun q _ => ct_congr T (fun t _ => u1_y0 (M := M) (y := y) (q := q) (t := t))), ← si_sm]
    exact h2 _ (RW_Rel c0)
  · refine k_X10_under (nI 2) P T pa hx (RW_dP c) (fun i => nI (ct_ (md_u2 M y i) ((td + 29) / 30))) (fun h0 => absurd h0 (by decide)) (fun e9 => absurd e9 (by decide)) (fun e9 => absurd e9 (by decide)) (fun _ i hi => by rw [RW_10 c]; exact rp_u2 (RW_rp c hi) htd (RW_27 c)) (fun _ => hK _ _ hm (fun d2 Q2 h2 => k_X12_under (nI 2) rfl c0.1.2.2.1 P T td (RW_26 c0) h8 (RW_14 c0) h7 (RW_27 c0) htd (fun h0 => absurd (by decide) h0) (fun e9 => absurd e9 (by decide)) (fun e9 => absurd e9 (by decide)) (fun _ => ?_)))
    rw [sm_congr P (fun q _ => ct_congr ((td + 29) / 30) (fun t _ => u2_y0 (M := M) (y := y) (q := q) (t := t))), ← si_sm]
    exact h2 _ (RW_Rel c0)


theorem op_stamps {G : mm_G} {d : Nat} {Q : Option Value → mm_M → Prop} {M : mm_M} {x y w0 s0 v0 bs L P T td N tp : Nat} {xs : Nat → Int32} {pa : Nat → Nat} {ar : Nat → pr_T} {ta la : Nat → Nat} {tl : Nat → List ps_L} {pp tk pq : Nat → Nat} (hG0 : G.2.2.2.1 0 = .ref w0) (c : RW_ M x y w0 s0 v0 bs L xs P T td N tp pa ar ta la tl pp tk pq) (k : Int32) (w : Int32) (hK : ∀ (rz : Int32) (M1 : mm_M), mid_ M1 y bs L xs → (∀ (d2 : Nat) (Q2 : Option Value → mm_M → Prop), (∀ M2 : mm_M, Rel_ x y w0 s0 v0 bs L xs M2 → Q2 (some (.int rz)) M2) → ma_ G jX12_stamps (d2 + 1) 0 0 [.ref y, .int k, .int w] M1 Q2) → Q (some (.int rz)) M1) : ma_ G jX10_stamps (d + 1) 0 0 [.ref x, .int k, .int w] M Q := by
  have c0 := RW_y0 c
  have hx := c.1.2.1
  have hm := RW_mid c
  have h7 := RW_T30 c
  have h8 := RW_P8 c
  have h9 := RW_N c
  have htd := RW_td c
  have z38 : mm_I (mm_sI M y 0 0) y 38 = nI N := RW_38 c0
  refine k_X10_stamps k w hx N pp tk (RW_dN c) w0 hG0 c.1.2.2.2.1.1 (fun h0 => hK _ _ hm (fun d2 Q2 h2 => k_X12_stamps k w rfl c0.1.2.2.1 N z38 h9 (fun _ => h2 _ (RW_Rel c0)) (fun q r e hq e2 hr => ?_))) (fun i r e hi e2 hr => hK _ _ hm (fun d2 Q2 h2 => k_X12_stamps k w rfl c0.1.2.2.1 N z38 h9 (fun h0 => ?_) (fun q r2 e3 hq e4 hr2 => ?_)))
  · exact (h0.elim (ix_no e hq (by omega)) (ix_no e2 (n := 5) (by omega) (by decide))).elim
  · rw [z38] at h0
    rcases h0 with h | h | h
    · exact absurd (Or.inl h) (ix_no e hi (by omega))
    · exact absurd (Or.inr h) (ix_no e hi (by omega))
    · exact absurd (ix5_.mpr h) (ix_no e2 hr (by decide))
  · obtain rfl : q = i := ix_eq e e3 hi hq (by omega)
    obtain rfl : r2 = r := ix_eq (n := 5) e2 e4 hr (by omega) (by decide)
    rw [y0_ (by decide), (RW_n1 c hi).2.2.2.2 r2 hr]
    exact h2 _ (RW_Rel c0)

theorem op_about {G : mm_G} {d : Nat} {Q : Option Value → mm_M → Prop} {M : mm_M} {x y w0 s0 v0 bs L P T td N tp : Nat} {xs : Nat → Int32} {pa : Nat → Nat} {ar : Nat → pr_T} {ta la : Nat → Nat} {tl : Nat → List ps_L} {pp tk pq : Nat → Nat} (hG0 : G.2.2.2.1 0 = .ref w0) (c : RW_ M x y w0 s0 v0 bs L xs P T td N tp pa ar ta la tl pp tk pq) (p : Int32) (w : Int32) (hK : ∀ (rz : Int32) (M1 : mm_M), mid_ M1 y bs L xs → (∀ (d2 : Nat) (Q2 : Option Value → mm_M → Prop), (∀ M2 : mm_M, Rel_ x y w0 s0 v0 bs L xs M2 → Q2 (some (.int rz)) M2) → ma_ G jX12_about (d2 + 1) 0 0 [.ref y, .int p, .int w] M1 Q2) → Q (some (.int rz)) M1) : ma_ G jX10_about (d + 2) 0 0 [.ref x, .int p, .int w] M Q := by
  have c0 := RW_y0 c
  have hx := c.1.2.1
  have hm := RW_mid c
  have h7 := RW_T30 c
  have h8 := RW_P8 c
  have h9 := RW_N c
  have htd := RW_td c
  refine k_X10_about p w P T pa hx (RW_dP c) w0 hG0 c.1.2.2.2.1.1 (fun h0 => hK _ _ hm (fun d2 Q2 h2 => k_X12_about p w rfl c0.1.2.2.1 P (RW_26 c0) h8 (fun _ => h2 _ (RW_Rel c0)) (fun q e hq _ => absurd h0 (ix_no e hq (by omega))) (fun q e hq _ => absurd h0 (ix_no e hq (by omega))) (fun q e hq _ => absurd h0 (ix_no e hq (by omega))) (fun q e hq _ => absurd h0 (ix_no e hq (by omega))) (fun q _ e hq _ _ => absurd h0 (ix_no e hq (by omega))) (fun q e hq _ => absurd h0 (ix_no e hq (by omega))))) (fun q e hq ew => ?_) (fun q e hq ew => ?_) (fun q e hq ew => ?_) (fun q e hq ew => ?_) (fun q r e hq hr ew => ?_) (fun q e hq hw1 hw2 => ?_)
  · subst ew
    refine hK _ _ hm (fun d2 Q2 h2 => k_X12_about p 0 rfl c0.1.2.2.1 P (RW_26 c0) h8 (fun h0 => absurd h0 (by rw [RW_26 c0]; exact ix_no e hq (by omega))) (fun q2 e2 hq2 _ => ?_) (fun _ _ _ h9 => absurd h9 (by decide)) (fun _ _ _ h9 => absurd h9 (by decide)) (fun _ _ _ h9 => absurd h9 (by decide)) (fun _ r _ _ hr h9 => absurd ((nI_eq (a := 0) (by decide) (by omega)).mp h9) (by omega)) (fun _ _ _ h9 => absurd h9 (by decide)))
    obtain rfl : q2 = q := ix_eq e e2 hq hq2 (by omega)
    rw [y0_ (by decide), (RW_rp c hq).2.2.2.2.2.2.2.1.1, ← (RW_rp c hq).2.2.2.1.1]
    exact h2 _ (RW_Rel c0)
  · subst ew
    refine hK _ _ hm (fun d2 Q2 h2 => k_X12_about p 1 rfl c0.1.2.2.1 P (RW_26 c0) h8 (fun h0 => absurd h0 (by rw [RW_26 c0]; exact ix_no e hq (by omega))) (fun _ _ _ h9 => absurd h9 (by decide)) (fun q2 e2 hq2 _ => ?_) (fun _ _ _ h9 => absurd h9 (by decide)) (fun _ _ _ h9 => absurd h9 (by decide)) (fun _ r _ _ hr h9 => absurd ((nI_eq (a := 1) (by decide) (by omega)).mp h9) (by omega)) (fun _ _ _ h9 => absurd h9 (by decide)))
    obtain rfl : q2 = q := ix_eq e e2 hq hq2 (by omega)
    rw [y0_ (by decide), (RW_rp c hq).2.2.2.2.1.1]
    exact h2 _ (RW_Rel c0)
  · subst ew
    refine hK _ _ hm (fun d2 Q2 h2 => k_X12_about p 2 rfl c0.1.2.2.1 P (RW_26 c0) h8 (fun h0 => absurd h0 (by rw [RW_26 c0]; exact ix_no e hq (by omega))) (fun _ _ _ h9 => absurd h9 (by decide)) (fun _ _ _ h9 => absurd h9 (by decide)) (fun q2 e2 hq2 _ => ?_) (fun _ _ _ h9 => absurd h9 (by decide)) (fun _ r _ _ hr h9 => absurd ((nI_eq (a := 2) (by decide) (by omega)).mp h9) (by omega)) (fun _ _ _ h9 => absurd h9 (by decide)))
    obtain rfl : q2 = q := ix_eq e e2 hq hq2 (by omega)
    rw [y0_ (by decide), (RW_rp c hq).2.2.2.2.1.2.1]
    exact h2 _ (RW_Rel c0)
  · subst ew
    refine hK _ _ hm (fun d2 Q2 h2 => k_X12_about p 3 rfl c0.1.2.2.1 P (RW_26 c0) h8 (fun h0 => absurd h0 (by rw [RW_26 c0]; exact ix_no e hq (by omega))) (fun _ _ _ h9 => absurd h9 (by decide)) (fun _ _ _ h9 => absurd h9 (by decide)) (fun _ _ _ h9 => absurd h9 (by decide)) (fun q2 e2 hq2 _ => ?_) (fun _ r _ _ hr h9 => absurd ((nI_eq (a := 3) (by decide) (by omega)).mp h9) (by omega)) (fun _ _ _ h9 => absurd h9 (by decide)))
    obtain rfl : q2 = q := ix_eq e e2 hq hq2 (by omega)
    have hop := (RW_rp c hq).2.2.2.2.2.2.2.2.2.2.2.1
    rw [RW_10 c, (RW_rp c hq).2.2.2.1.2.1, ab_n (by omega), ab_n (by omega), pk_sub (by omega)] at h2
    rw [y0_ (by decide), (RW_rp c hq).2.2.2.2.2.2.2.1.2.2.1]
    exact h2 _ (RW_Rel c0)
  · have ew2 : w = nI (r + 4) := by
      rw [show nI (r + 4) = nI r + 4 from (nI_add r 4).symm, ← ew, Int32.sub_add_cancel]
    have hne : ∀ k, k < 4 → ¬ w = nI k := fun k hk h9 => by
      rw [ew2] at h9
      have := (nI_eq (by omega) (by omega)).mp h9
      omega
    refine hK _ _ hm (fun d2 Q2 h2 => k_X12_about p w rfl c0.1.2.2.1 P (RW_26 c0) h8 (fun h0 => absurd h0 (by rw [RW_26 c0]; exact ix_no e hq (by omega))) (fun _ _ _ h9 => absurd h9 (hne 0 (by decide))) (fun _ _ _ h9 => absurd h9 (hne 1 (by decide))) (fun _ _ _ h9 => absurd h9 (hne 2 (by decide))) (fun _ _ _ h9 => absurd h9 (hne 3 (by decide))) (fun q2 r2 e2 hq2 hr2 e3 => ?_) (fun _ _ _ h9 => ?_))
    · obtain rfl : q2 = q := ix_eq e e2 hq hq2 (by omega)
      have : r2 = r := by
        have := (nI_eq (by omega) (by omega)).mp (e3.symm.trans ew2)
        omega
      subst this
      rw [y0_ (by decide), ((RW_rp c hq).2.2.2.2.2.2.2.2.1 r2 hr).2, ← ((RW_rp c hq).2.2.2.2.2.2.2.2.1 r2 hr).1]
      exact h2 _ (RW_Rel c0)
    · rw [ew2, nI_toInt (by omega)] at h9
      omega
  · have hne : ∀ k, k < 4 → ¬ w = nI k := fun k hk h9 => by
      rw [h9, nI_toInt (by omega)] at hw1
      omega
    refine hK _ _ hm (fun d2 Q2 h2 => k_X12_about p w rfl c0.1.2.2.1 P (RW_26 c0) h8 (fun h0 => absurd h0 (by rw [RW_26 c0]; exact ix_no e hq (by omega))) (fun _ _ _ h9 => absurd h9 (hne 0 (by decide))) (fun _ _ _ h9 => absurd h9 (hne 1 (by decide))) (fun _ _ _ h9 => absurd h9 (hne 2 (by decide))) (fun _ _ _ h9 => absurd h9 (hne 3 (by decide))) (fun q2 r2 e2 hq2 hr2 e3 => ?_) (fun _ _ _ _ => h2 _ (RW_Rel c0)))
    have ew : w - 4 = nI r2 := by
      rw [e3, show nI (r2 + 4) = nI r2 + 4 from (nI_add r2 4).symm, Int32.add_sub_cancel]
    exact absurd hw2 (ix_no ew (n := 5) (by omega) (by decide))

theorem op_known {G : mm_G} {d : Nat} {Q : Option Value → mm_M → Prop} {M : mm_M} {x y w0 s0 v0 bs L P T td N tp : Nat} {xs : Nat → Int32} {pa : Nat → Nat} {ar : Nat → pr_T} {ta la : Nat → Nat} {tl : Nat → List ps_L} {pp tk pq : Nat → Nat}  (c : RW_ M x y w0 s0 v0 bs L xs P T td N tp pa ar ta la tl pp tk pq) (p : Int32) (dd : Int32) (hK : ∀ (rz : Int32) (M1 : mm_M), mid_ M1 y bs L xs → (∀ (d2 : Nat) (Q2 : Option Value → mm_M → Prop), (∀ M2 : mm_M, Rel_ x y w0 s0 v0 bs L xs M2 → Q2 (some (.int rz)) M2) → ma_ G jX12_known (d2 + 1) 0 0 [.ref y, .int p, .int dd] M1 Q2) → Q (some (.int rz)) M1) : ma_ G jX10_known (d + 4) 0 0 [.ref x, .int p, .int dd] M Q := by
  have c0 := RW_y0 c
  have hx := c.1.2.1
  have hm := RW_mid c
  have h7 := RW_T30 c
  have h8 := RW_P8 c
  have h9 := RW_N c
  have htd := RW_td c
  have hA : ∀ {q : Nat}, p = nI q → q < P → ¬ (p < 0 ∨ mm_I (mm_sI M y 0 0) y 26 ≤ p) := fun e hq => by rw [RW_26 c0]; exact ix_no e hq (by omega)
  have e10 : mm_I (mm_sI M y 0 0) y 27 = mm_I M x 10 := (RW_27 c0).trans (RW_10 c).symm
  refine k_X10_known p dd P T pa hx (RW_dP c) N pp tk (RW_dN c) pq (RW_pq c) (fun h0 => hK _ _ hm (fun d2 Q2 h2 => k_X12_known p dd rfl c0.1.2.2.1 P N pq (RW_26 c0) h8 (RW_PP c0) (fun _ => h2 _ (RW_Rel c0)) (fun _ => h2 _ (RW_Rel c0)) (fun q e hq h3 h4 => ?_))) (fun q e hq h3 h4 => hK _ _ hm (fun d2 Q2 h2 => k_X12_known p dd rfl c0.1.2.2.1 P N pq (RW_26 c0) h8 (RW_PP c0) (fun h0 => absurd h0 (hA e hq)) (fun h0 => ?_) (fun _ _ _ _ _ => ?_)))
  · rw [e10] at h4
    rcases h0 with h | h | h
    · exact absurd h (ix_no e hq (by omega))
    · exact absurd h h3
    · exact absurd h4 (Int32.not_le.mpr h)
  · rw [e10] at h0
    rcases h0 with h | h
    · exact absurd h h3
    · exact absurd h4 (Int32.not_le.mpr h)
  · rw [si_congr N (fun i hi => by
      obtain ⟨a1, a2, a3⟩ := RW_e c hi
      rw [a1, a3])]
    exact h2 _ (RW_Rel c0)

theorem op_sum {G : mm_G} {d : Nat} {Q : Option Value → mm_M → Prop} {M : mm_M} {x y w0 s0 v0 bs L P T td N tp : Nat} {xs : Nat → Int32} {pa : Nat → Nat} {ar : Nat → pr_T} {ta la : Nat → Nat} {tl : Nat → List ps_L} {pp tk pq : Nat → Nat}  (c : RW_ M x y w0 s0 v0 bs L xs P T td N tp pa ar ta la tl pp tk pq) (p : Int32) (dd : Int32) (hK : ∀ (rz : Int32) (M1 : mm_M), mid_ M1 y bs L xs → (∀ (d2 : Nat) (Q2 : Option Value → mm_M → Prop), (∀ M2 : mm_M, Rel_ x y w0 s0 v0 bs L xs M2 → Q2 (some (.int rz)) M2) → ma_ G jX12_sum (d2 + 1) 0 0 [.ref y, .int p, .int dd] M1 Q2) → Q (some (.int rz)) M1) : ma_ G jX10_sum (d + 4) 0 0 [.ref x, .int p, .int dd] M Q := by
  have c0 := RW_y0 c
  have hx := c.1.2.1
  have hm := RW_mid c
  have h7 := RW_T30 c
  have h8 := RW_P8 c
  have h9 := RW_N c
  have htd := RW_td c
  have hA : ∀ {q : Nat}, p = nI q → q < P → ¬ (p < 0 ∨ mm_I (mm_sI M y 0 0) y 26 ≤ p) := fun e hq => by rw [RW_26 c0]; exact ix_no e hq (by omega)
  have e10 : mm_I (mm_sI M y 0 0) y 27 = mm_I M x 10 := (RW_27 c0).trans (RW_10 c).symm
  refine k_X10_sum p dd P T pa hx (RW_dP c) N pp tk (RW_dN c) pq (RW_pq c) (fun h0 => hK _ _ hm (fun d2 Q2 h2 => k_X12_sum p dd rfl c0.1.2.2.1 P N pq (RW_26 c0) h8 (RW_PP c0) (fun _ => h2 _ (RW_Rel c0)) (fun _ => h2 _ (RW_Rel c0)) (fun q e hq h3 h4 => ?_))) (fun q e hq h3 h4 => hK _ _ hm (fun d2 Q2 h2 => k_X12_sum p dd rfl c0.1.2.2.1 P N pq (RW_26 c0) h8 (RW_PP c0) (fun h0 => absurd h0 (hA e hq)) (fun h0 => ?_) (fun _ _ _ _ _ => ?_)))
  · rw [e10] at h4
    rcases h0 with h | h | h
    · exact absurd h (ix_no e hq (by omega))
    · exact absurd h h3
    · exact absurd h4 (Int32.not_le.mpr h)
  · rw [e10] at h0
    rcases h0 with h | h
    · exact absurd h h3
    · exact absurd h4 (Int32.not_le.mpr h)
  · rw [si_congr N (fun i hi => by
      obtain ⟨a1, a2, a3⟩ := RW_e c hi
      rw [a1, a3, a2])]
    exact h2 _ (RW_Rel c0)

theorem op_homes {G : mm_G} {d : Nat} {Q : Option Value → mm_M → Prop} {M : mm_M} {x y w0 s0 v0 bs L P T td N tp : Nat} {xs : Nat → Int32} {pa : Nat → Nat} {ar : Nat → pr_T} {ta la : Nat → Nat} {tl : Nat → List ps_L} {pp tk pq : Nat → Nat}  (c : RW_ M x y w0 s0 v0 bs L xs P T td N tp pa ar ta la tl pp tk pq) (k : Int32) (hK : ∀ (rz : Int32) (M1 : mm_M), mid_ M1 y bs L xs → (∀ (d2 : Nat) (Q2 : Option Value → mm_M → Prop), (∀ M2 : mm_M, Rel_ x y w0 s0 v0 bs L xs M2 → Q2 (some (.int rz)) M2) → ma_ G jX12_homes (d2 + 3) 0 0 [.ref y, .int k] M1 Q2) → Q (some (.int rz)) M1) : ma_ G jX10_homes (d + 5) 0 0 [.ref x, .int k] M Q := by
  have c0 := RW_y0 c
  have hx := c.1.2.1
  have hm := RW_mid c
  have h7 := RW_T30 c
  have h8 := RW_P8 c
  have h9 := RW_N c
  have htd := RW_td c
  refine k_X10_homes k T ta la N pp tk (RW_dN c) hx (RW_dT c) (fun h0 => hK _ _ hm (fun d2 Q2 h2 => k_X12_homes k rfl c0.1.2.2.1 T N pq (RW_14 c0) h7 (fun t => (tl t).length) (tn_ tl) (tm_ tl) (RW_TF c0) (RW_PP c0) (fun _ => h2 _ (RW_Rel c0)) (fun q e hq => absurd h0 (ix_no e hq (by omega))))) (fun i e hi => hK _ _ hm (fun d2 Q2 h2 => k_X12_homes k rfl c0.1.2.2.1 T N pq (RW_14 c0) h7 (fun t => (tl t).length) (tn_ tl) (tm_ tl) (RW_TF c0) (RW_PP c0) (fun h0 => absurd h0 (by rw [RW_38 c0]; exact ix_no e hi (by omega))) (fun q e2 hq => ?_)))
  obtain rfl : q = i := ix_eq e e2 hi hq (by omega)
  rw [RW_hf c hi]
  exact h2 _ (RW_Rel c0)

theorem op_difference {G : mm_G} {d : Nat} {Q : Option Value → mm_M → Prop} {M : mm_M} {x y w0 s0 v0 bs L P T td N tp : Nat} {xs : Nat → Int32} {pa : Nat → Nat} {ar : Nat → pr_T} {ta la : Nat → Nat} {tl : Nat → List ps_L} {pp tk pq : Nat → Nat}  (c : RW_ M x y w0 s0 v0 bs L xs P T td N tp pa ar ta la tl pp tk pq) (p : Int32) (hK : ∀ (rz : Int32) (M1 : mm_M), mid_ M1 y bs L xs → (∀ (d2 : Nat) (Q2 : Option Value → mm_M → Prop), (∀ M2 : mm_M, Rel_ x y w0 s0 v0 bs L xs M2 → Q2 (some (.int rz)) M2) → ma_ G jX12_difference (d2 + 3) 0 0 [.ref y, .int p] M1 Q2) → Q (some (.int rz)) M1) : ma_ G jX10_difference (d + 5) 0 0 [.ref x, .int p] M Q := by
  have c0 := RW_y0 c
  have hx := c.1.2.1
  have hm := RW_mid c
  have h7 := RW_T30 c
  have h8 := RW_P8 c
  have h9 := RW_N c
  have htd := RW_td c
  have e10 : mm_I (mm_sI M y 0 0) y 27 = mm_I M x 10 := (RW_27 c0).trans (RW_10 c).symm
  refine k_X10_difference p P T pa hx (RW_dP c) N pp tk (RW_dN c) pq (RW_pq c) ta la (RW_dT c) (hK _ _ hm (fun d2 Q2 h2 => k_X12_difference p rfl c0.1.2.2.1 P N pq (RW_26 c0) h8 (RW_PP c0) T (RW_14 c0) h7 (fun t => (tl t).length) (tn_ tl) (tm_ tl) (RW_TF c0) (fun h0 => ?_) (fun q e hq => ?_)))
  · rw [RW_26 c0] at h0
    rw [si_congr (h := fun _ => 0) N (fun i hi => if_neg (fun q => ?_)), si_0] at h2
    · exact h2 _ (RW_Rel c0)
    · exact ix_no (q.1.symm.trans (RW_pq c i hi).1) (RW_pq c i hi).2 (by omega) h0
  · rw [si_congr N (fun i hi => by
      obtain ⟨a1, a2, a3⟩ := RW_e c hi
      rw [a1, a2, a3, RW_hf c hi, e10])]
    exact h2 _ (RW_Rel c0)

theorem op_unlike {G : mm_G} {d : Nat} {Q : Option Value → mm_M → Prop} {M : mm_M} {x y w0 s0 v0 bs L P T td N tp : Nat} {xs : Nat → Int32} {pa : Nat → Nat} {ar : Nat → pr_T} {ta la : Nat → Nat} {tl : Nat → List ps_L} {pp tk pq : Nat → Nat}  (c : RW_ M x y w0 s0 v0 bs L xs P T td N tp pa ar ta la tl pp tk pq) (p : Int32) (hK : ∀ (rz : Int32) (M1 : mm_M), mid_ M1 y bs L xs → (∀ (d2 : Nat) (Q2 : Option Value → mm_M → Prop), (∀ M2 : mm_M, Rel_ x y w0 s0 v0 bs L xs M2 → Q2 (some (.int rz)) M2) → ma_ G jX12_unlike (d2 + 3) 0 0 [.ref y, .int p] M1 Q2) → Q (some (.int rz)) M1) : ma_ G jX10_unlike (d + 5) 0 0 [.ref x, .int p] M Q := by
  have c0 := RW_y0 c
  have hx := c.1.2.1
  have hm := RW_mid c
  have h7 := RW_T30 c
  have h8 := RW_P8 c
  have h9 := RW_N c
  have htd := RW_td c
  have e10 : mm_I (mm_sI M y 0 0) y 27 = mm_I M x 10 := (RW_27 c0).trans (RW_10 c).symm
  refine k_X10_unlike p P T pa hx (RW_dP c) N pp tk (RW_dN c) pq (RW_pq c) ta la (RW_dT c) (fun h0 => hK _ _ hm (fun d2 Q2 h2 => k_X12_unlike p rfl c0.1.2.2.1 P N pq (RW_26 c0) h8 (RW_PP c0) T (RW_14 c0) h7 (fun t => (tl t).length) (tn_ tl) (tm_ tl) (RW_TF c0) (fun _ => h2 _ (RW_Rel c0)) (fun q e hq => absurd h0 (ix_no e hq (by omega))))) (fun q e hq => hK _ _ hm (fun d2 Q2 h2 => k_X12_unlike p rfl c0.1.2.2.1 P N pq (RW_26 c0) h8 (RW_PP c0) T (RW_14 c0) h7 (fun t => (tl t).length) (tn_ tl) (tm_ tl) (RW_TF c0) (fun h0 => absurd h0 (by rw [RW_26 c0]; exact ix_no e hq (by omega))) (fun _ _ _ => ?_)))
  rw [si_congr (h := fun i => if mm_I M (pp i) 0 = p ∧ kd_ M (pp i) (pa (pq i)) ≤ mm_I M x 10 ∧ ¬ mm_I M (pp i) 6 = hg_ M ta la (pp i) T then 1 else 0) N (fun i hi => by
    obtain ⟨a1, a2, a3⟩ := RW_e c hi
    rw [a1, a2, a3, RW_hf c hi, e10]
    exact ite_congr (propext ⟨fun z => ⟨z.1, z.2.1, fun q => z.2.2 q.symm⟩, fun z => ⟨z.1, z.2.1, fun q => z.2.2 q.symm⟩⟩) (fun _ => rfl) (fun _ => rfl))]
  exact h2 _ (RW_Rel c0)

theorem op_paper {G : mm_G} {d : Nat} {Q : Option Value → mm_M → Prop} {M : mm_M} {x y w0 s0 v0 bs L P T td N tp : Nat} {xs : Nat → Int32} {pa : Nat → Nat} {ar : Nat → pr_T} {ta la : Nat → Nat} {tl : Nat → List ps_L} {pp tk pq : Nat → Nat} (hG0 : G.2.2.2.1 0 = .ref w0) (c : RW_ M x y w0 s0 v0 bs L xs P T td N tp pa ar ta la tl pp tk pq) (k : Int32) (w : Int32) (hK : ∀ (rz : Int32) (M1 : mm_M), mid_ M1 y bs L xs → (∀ (d2 : Nat) (Q2 : Option Value → mm_M → Prop), (∀ M2 : mm_M, Rel_ x y w0 s0 v0 bs L xs M2 → Q2 (some (.int rz)) M2) → ma_ G jX12_paper (d2 + 1) 0 0 [.ref y, .int k, .int w] M1 Q2) → Q (some (.int rz)) M1) : ma_ G jX10_paper (d + 3) 0 0 [.ref x, .int k, .int w] M Q := by
  have c0 := RW_y0 c
  have hx := c.1.2.1
  have hm := RW_mid c
  have h7 := RW_T30 c
  have h8 := RW_P8 c
  have h9 := RW_N c
  have htd := RW_td c
  have e10 : mm_I (mm_sI M y 0 0) y 27 = mm_I M x 10 := (RW_27 c0).trans (RW_10 c).symm
  refine k_X10_paper k w P T pa hx (RW_dP c) N pp tk (RW_dN c) pq (RW_pq c) w0 hG0 c.1.2.2.2.1.1 (fun h0 => hK _ _ hm (fun d2 Q2 h2 => k_X12_paper k w rfl c0.1.2.2.1 N pq (RW_PP c0) (fun _ => h2 _ (RW_Rel c0)) (fun q e hq _ => absurd h0 (ix_no e hq (by omega))) (fun q _ e hq _ _ => absurd h0 (ix_no e hq (by omega))) (fun q e hq _ => absurd h0 (ix_no e hq (by omega))) (fun q e hq _ _ => absurd h0 (ix_no e hq (by omega))) (fun q e hq _ _ => absurd h0 (ix_no e hq (by omega))))) (fun i e hi hw => ?_) (fun i e hi ew => ?_) (fun i e hi ew => ?_) (fun i e hi ew => ?_) (fun i e hi ew => ?_) (fun i e hi ew => ?_) (fun i e hi ew => ?_) (fun i e hi ew => ?_) (fun i e hi ew => ?_) (fun i e hi ew h5 => ?_) (fun i e hi ew h5 => ?_)
  · have hne : ∀ k, k < 9 → ¬ w = nI k := fun k hk h9 => by
      rw [h9, nI_toInt (by omega)] at hw
      omega
    exact hK _ _ hm (fun d2 Q2 h2 => k_X12_paper k w rfl c0.1.2.2.1 N pq (RW_PP c0) (fun h0 => absurd h0 (by rw [RW_38 c0]; exact ix_no e hi (by omega))) (fun _ _ _ _ => h2 _ (RW_Rel c0)) (fun _ j _ _ hj h => absurd h (hne j (by omega))) (fun _ _ _ h => absurd h (hne 7 (by decide))) (fun _ _ _ h => absurd h (hne 8 (by decide))) (fun _ _ _ h => absurd h (hne 8 (by decide))))
  · subst ew
    refine hK _ _ hm (fun d2 Q2 h2 => k_X12_paper k (nI 0) rfl c0.1.2.2.1 N pq (RW_PP c0) (fun h0 => absurd h0 (by rw [RW_38 c0]; exact ix_no e hi (by omega))) (fun _ _ _ h => absurd h (by decide)) (fun q j e2 hq hj e3 => ?_) (fun _ _ _ h => absurd h (by decide)) (fun _ _ _ h => absurd h (by decide)) (fun _ _ _ h => absurd h (by decide)))
    obtain rfl : q = i := ix_eq e e2 hi hq (by omega)
    obtain rfl : 0 = j := (nI_eq (by decide) (by omega)).mp e3
    rw [show y + 24 + 0 = y + 24 from rfl, y0_ (by decide), (RW_n1 c hi).2.2.2.1.1]
    exact h2 _ (RW_Rel c0)
  · subst ew
    refine hK _ _ hm (fun d2 Q2 h2 => k_X12_paper k (nI 1) rfl c0.1.2.2.1 N pq (RW_PP c0) (fun h0 => absurd h0 (by rw [RW_38 c0]; exact ix_no e hi (by omega))) (fun _ _ _ h => absurd h (by decide)) (fun q j e2 hq hj e3 => ?_) (fun _ _ _ h => absurd h (by decide)) (fun _ _ _ h => absurd h (by decide)) (fun _ _ _ h => absurd h (by decide)))
    obtain rfl : q = i := ix_eq e e2 hi hq (by omega)
    obtain rfl : 1 = j := (nI_eq (by decide) (by omega)).mp e3
    rw [show y + 24 + 1 = y + 25 from rfl, y0_ (by decide), (RW_n1 c hi).2.2.2.1.2.1]
    exact h2 _ (RW_Rel c0)
  · subst ew
    refine hK _ _ hm (fun d2 Q2 h2 => k_X12_paper k (nI 2) rfl c0.1.2.2.1 N pq (RW_PP c0) (fun h0 => absurd h0 (by rw [RW_38 c0]; exact ix_no e hi (by omega))) (fun _ _ _ h => absurd h (by decide)) (fun q j e2 hq hj e3 => ?_) (fun _ _ _ h => absurd h (by decide)) (fun _ _ _ h => absurd h (by decide)) (fun _ _ _ h => absurd h (by decide)))
    obtain rfl : q = i := ix_eq e e2 hi hq (by omega)
    obtain rfl : 2 = j := (nI_eq (by decide) (by omega)).mp e3
    rw [show y + 24 + 2 = y + 26 from rfl, y0_ (by decide), (RW_n1 c hi).2.2.2.1.2.2.1]
    exact h2 _ (RW_Rel c0)
  · subst ew
    refine hK _ _ hm (fun d2 Q2 h2 => k_X12_paper k (nI 3) rfl c0.1.2.2.1 N pq (RW_PP c0) (fun h0 => absurd h0 (by rw [RW_38 c0]; exact ix_no e hi (by omega))) (fun _ _ _ h => absurd h (by decide)) (fun q j e2 hq hj e3 => ?_) (fun _ _ _ h => absurd h (by decide)) (fun _ _ _ h => absurd h (by decide)) (fun _ _ _ h => absurd h (by decide)))
    obtain rfl : q = i := ix_eq e e2 hi hq (by omega)
    obtain rfl : 3 = j := (nI_eq (by decide) (by omega)).mp e3
    rw [show y + 24 + 3 = y + 27 from rfl, y0_ (by decide), (RW_n1 c hi).2.2.2.1.2.2.2.1]
    exact h2 _ (RW_Rel c0)
  · subst ew
    refine hK _ _ hm (fun d2 Q2 h2 => k_X12_paper k (nI 4) rfl c0.1.2.2.1 N pq (RW_PP c0) (fun h0 => absurd h0 (by rw [RW_38 c0]; exact ix_no e hi (by omega))) (fun _ _ _ h => absurd h (by decide)) (fun q j e2 hq hj e3 => ?_) (fun _ _ _ h => absurd h (by decide)) (fun _ _ _ h => absurd h (by decide)) (fun _ _ _ h => absurd h (by decide)))
    obtain rfl : q = i := ix_eq e e2 hi hq (by omega)
    obtain rfl : 4 = j := (nI_eq (by decide) (by omega)).mp e3
    rw [show y + 24 + 4 = y + 28 from rfl, y0_ (by decide), (RW_n1 c hi).2.2.2.1.2.2.2.2.1]
    exact h2 _ (RW_Rel c0)
  · subst ew
    refine hK _ _ hm (fun d2 Q2 h2 => k_X12_paper k (nI 5) rfl c0.1.2.2.1 N pq (RW_PP c0) (fun h0 => absurd h0 (by rw [RW_38 c0]; exact ix_no e hi (by omega))) (fun _ _ _ h => absurd h (by decide)) (fun q j e2 hq hj e3 => ?_) (fun _ _ _ h => absurd h (by decide)) (fun _ _ _ h => absurd h (by decide)) (fun _ _ _ h => absurd h (by decide)))
    obtain rfl : q = i := ix_eq e e2 hi hq (by omega)
    obtain rfl : 5 = j := (nI_eq (by decide) (by omega)).mp e3
    rw [show y + 24 + 5 = y + 29 from rfl, y0_ (by decide), (RW_n1 c hi).2.2.2.1.2.2.2.2.2.1]
    exact h2 _ (RW_Rel c0)
  · subst ew
    refine hK _ _ hm (fun d2 Q2 h2 => k_X12_paper k (nI 6) rfl c0.1.2.2.1 N pq (RW_PP c0) (fun h0 => absurd h0 (by rw [RW_38 c0]; exact ix_no e hi (by omega))) (fun _ _ _ h => absurd h (by decide)) (fun q j e2 hq hj e3 => ?_) (fun _ _ _ h => absurd h (by decide)) (fun _ _ _ h => absurd h (by decide)) (fun _ _ _ h => absurd h (by decide)))
    obtain rfl : q = i := ix_eq e e2 hi hq (by omega)
    obtain rfl : 6 = j := (nI_eq (by decide) (by omega)).mp e3
    rw [show y + 24 + 6 = y + 30 from rfl, y0_ (by decide), (RW_n1 c hi).2.2.2.1.2.2.2.2.2.2.1]
    exact h2 _ (RW_Rel c0)
  · subst ew
    refine hK _ _ hm (fun d2 Q2 h2 => k_X12_paper k (nI 7) rfl c0.1.2.2.1 N pq (RW_PP c0) (fun h0 => absurd h0 (by rw [RW_38 c0]; exact ix_no e hi (by omega))) (fun _ _ _ h => absurd h (by decide)) (fun _ j _ _ hj h => absurd ((nI_eq (a := 7) (by decide) (by omega)).mp h) (by omega)) (fun q e2 hq _ => ?_) (fun _ _ _ h => absurd h (by decide)) (fun _ _ _ h => absurd h (by decide)))
    obtain rfl : q = i := ix_eq e e2 hi hq (by omega)
    rw [si_congr 5 (fun w hw => by rw [y0_ (k := 32) (by decide), (RW_n1 c hi).2.2.2.2 w hw])]
    exact h2 _ (RW_Rel c0)
  · subst ew
    refine hK _ _ hm (fun d2 Q2 h2 => k_X12_paper k (nI 8) rfl c0.1.2.2.1 N pq (RW_PP c0) (fun h0 => absurd h0 (by rw [RW_38 c0]; exact ix_no e hi (by omega))) (fun _ _ _ h => absurd h (by decide)) (fun _ j _ _ hj h => absurd ((nI_eq (a := 8) (by decide) (by omega)).mp h) (by omega)) (fun _ _ _ h => absurd h (by decide)) (fun q e2 hq _ h => ?_) (fun q e2 hq _ h => ?_))
    · obtain rfl : q = i := ix_eq e e2 hi hq (by omega)
      rw [(RW_e c hi).2.2]
      exact h2 _ (RW_Rel c0)
    · obtain rfl : q = i := ix_eq e e2 hi hq (by omega)
      rw [(RW_e c hi).2.2, e10] at h
      exact absurd h5 (Int32.not_le.mpr h)
  · subst ew
    refine hK _ _ hm (fun d2 Q2 h2 => k_X12_paper k (nI 8) rfl c0.1.2.2.1 N pq (RW_PP c0) (fun h0 => absurd h0 (by rw [RW_38 c0]; exact ix_no e hi (by omega))) (fun _ _ _ h => absurd h (by decide)) (fun _ j _ _ hj h => absurd ((nI_eq (a := 8) (by decide) (by omega)).mp h) (by omega)) (fun _ _ _ h => absurd h (by decide)) (fun q e2 hq _ h => ?_) (fun q e2 hq _ h => h2 _ (RW_Rel c0)))
    obtain rfl : q = i := ix_eq e e2 hi hq (by omega)
    rw [(RW_e c hi).2.2, e10] at h
    exact absurd h (Int32.not_le.mpr h5)
