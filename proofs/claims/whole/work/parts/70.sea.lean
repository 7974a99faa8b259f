/-! a paper is sealed: both answers -/
theorem fr_slf {M M' : mm_M} {x y : Nat} {tr : Int32} (h : slf_F M M' x tr) : fr_ (wk_ x y) (vk_ x y) M M' := fr_mono (fr_nwx (E := fun j => j = 11) h.1 (fun j hj => h.2.2.2 j hj)) (fun a j z => by
  rcases z with ⟨e1, e2⟩ | ⟨e1, e2 | e2 | e2⟩
  · exact Or.inl ⟨e1, Or.inl e2⟩
  · exact absurd e2 e1
  · exact Or.inr (Or.inl (by omega))
  · exact Or.inr (Or.inl (by omega))) (fun a z => Or.inl z)
theorem seal_n {M M' : mm_M} {x N p a kk : Nat} {k v s pI h : Int32} {fee t : Nat} {n n' st : Nat → Nat} (hn : ∀ i, i < 5 → n i = n' i) (hF : seal_F M M' x N p a kk k v s pI h fee t n st) : seal_F M M' x N p a kk k v s pI h fee t n' st := by
  obtain ⟨F1, F2, F3, F4, F5, F6, F7, F8, F9, F10, F11, F12, F13, F14, F15, F16, F17, F18⟩ := hF
  exact ⟨F1, F2, F3, F4, F5, F6, F7, F8, F9, F10, F11, F12, fun i hi => by rw [← hn i hi]; exact F13 i hi, F14, F15, F16, fun i hi => by rw [← hn i hi]; exact F17 i hi, F18⟩
theorem fz_i {st n : Nat → Nat} {fee : Nat} (h : fz_ st fee n) : ∀ i, i < 5 → n i ≤ st i := fun i hi => by
  rcases (by omega : i = 0 ∨ i = 1 ∨ i = 2 ∨ i = 3 ∨ i = 4) with rfl | rfl | rfl | rfl | rfl
  · exact h.1
  · exact h.2.1
  · exact h.2.2.1
  · exact h.2.2.2.1
  · exact h.2.2.2.2.1
theorem sl_ref2 {G : mm_G} {d2 : Nat} {Q2 : Option Value → mm_M → Prop} {M1 : mm_M} {x y w0 s0 v0 bs L P T td N tp : Nat} {xs : Nat → Int32} {pa : Nat → Nat} {ar : Nat → pr_T} {ta la : Nat → Nat} {tl : Nat → List ps_L} {pp tk pq : Nat → Nat} (hG2 : G.2.2.2.1 2 = .ref v0) (v' : RV_ (mm_sI M1 y 0 0) x y w0 s0 v0 bs L xs P T td N tp pa ar ta la tl pp tk pq) (p k v s : Int32)
    (h0 : p < 0 ∨ nI P ≤ p → Q2 (some (.int (-1))) (mm_sI (mm_sI (mm_sI M1 y 0 0) y 1 1) y 2 (-1))) (h2 : ∀ q, p = nI q → q < P → ¬ (0 ≤ k ∧ k ≤ 9 ∧ 0 ≤ v ∧ v ≤ 9999 ∧ 1 ≤ s ∧ s ≤ 99) → Q2 (some (.int (-1))) (mm_sI (mm_sI (mm_sI M1 y 0 0) y 1 2) y 2 (-1)))
    (h5 : ∀ q, p = nI q → q < P → 0 ≤ k → k ≤ 9 → 0 ≤ v → v ≤ 9999 → 1 ≤ s → s ≤ 99 → Q2 (some (.int (-1))) (mm_sI (mm_sI (mm_sI M1 y 0 0) y 1 5) y 2 (-1)))
    (h1 : ∀ q t, p = nI q → q < P → 0 ≤ k → k ≤ 9 → 0 ≤ v → v ≤ 9999 → 1 ≤ s → s ≤ 99 → t < T → (∀ j, j ≤ t → md_com (mm_sI M1 y 0 0) y (30 * q + j) ≤ mm_I (mm_sI M1 y 0 0) y 27) → False) : ma_ G jX12_seal (d2 + 3) 0 0 [.ref y, .int p, .int k, .int v, .int s] M1 Q2 := by
  have h9 := v'.2.1.1.2.2.2
  refine k_X12_seal p k v s rfl v'.1.2.2.1 P T N (RV_26 v') v'.2.1.1.1 (RV_14 v') v'.2.1.1.2.1 (RV_38 v') h9 tl v'.2.2.1.2.2.1 v'.2.2.1.2.1 (fun r => (ar r).2.2.2.2) (fun r hr i hi => ((RV_rp v' hr).2.2.2.2.2.2.2.2.1 i hi).2) v'.2.1.2.2.2.2.2 v0 hG2 v'.1.2.2.2.2.2.1 (fun r hr => ?_) (fun z => h0 (by rw [RV_26 v'] at z; exact z)) h2 (fun q e hq a1 a2 a3 a4 a5 a6 _ => h5 q e hq a1 a2 a3 a4 a5 a6) (fun q t e hq a1 a2 a3 a4 a5 a6 ht b1 _ => (h1 q t e hq a1 a2 a3 a4 a5 a6 ht b1).elim)
  rw [(RV_rp v' hr).2.2.2.2.1.2.1]
  exact nb_w (RV_rp v' hr).2.2.2.2.1.2.2 (Nat.le_refl _) (by omega)

theorem op_seal {G : mm_G} {d : Nat} {Q : Option Value → mm_M → Prop} {M : mm_M} {x y w0 s0 v0 bs L P T td N tp : Nat} {xs : Nat → Int32} {pa : Nat → Nat} {ar : Nat → pr_T} {ta la : Nat → Nat} {tl : Nat → List ps_L} {pp tk pq : Nat → Nat} (hG0 : G.2.2.2.1 0 = .ref w0) (hG1 : G.2.2.2.1 1 = .ref s0) (hG2 : G.2.2.2.1 2 = .ref v0) (c : RW_ M x y w0 s0 v0 bs L xs P T td N tp pa ar ta la tl pp tk pq) (p : Int32) (k : Int32) (v : Int32) (s : Int32) (hK : ∀ (rz : Int32) (M1 : mm_M), mid_ M1 y bs L xs → (∀ (d2 : Nat) (Q2 : Option Value → mm_M → Prop), (∀ M2 : mm_M, Rel_ x y w0 s0 v0 bs L xs M2 → Q2 (some (.int rz)) M2) → ma_ G jX12_seal (d2 + 3) 0 0 [.ref y, .int p, .int k, .int v, .int s] M1 Q2) → Q (some (.int rz)) M1) : ma_ G jX10_seal (d + 9) 13 69 [.ref x, .int p, .int k, .int v, .int s] M Q := by
  have h7 := RW_T30 c
  have h8 := RW_P8 c
  have h9 := RW_N c
  have htd := RW_td c
  have hx := c.1.2.1
  have hy := c.1.2.2.1
  have hxy := c.1.1
  have hcx : cx_ M (x + 11) w0 s0 := ⟨dsk_s6 hx, hx.2.2.2.2.1, hx.2.2.2.2.2, c.1.2.2.2.1.1, c.1.2.2.2.1.2, c.1.2.2.2.2.1.1, c.1.2.2.2.2.1.2⟩
  refine k_X10_seal p k v s P T pa hx (RW_dP c) ta la tl c.2.2.2.1.1 c.2.2.2.1.2.1 N (RW_dN c).1 h9 w0 s0 hG0 hG1 hcx (fun r => (ar r).2.2.2.2) (fun r hr => ⟨(RW_rp c hr).2.1.2.2.1, fun i hi => ((RW_rp c hr).2.2.2.2.2.2.2.2.1 i hi).1⟩) c.2.2.1.2.2.2.2.2 (fun r hr => by have o1 := (RW_rp c hr).2.2.1.2.1; unfold ou_ rg_ok_ at o1; omega) (fun r hr => nb_w (RW_rp c hr).2.2.2.2.1.2.2 (Nat.le_refl _) (by omega)) (fun h0 => hK _ _ (mid_rfs 1 c) (fun d2 Q2 h2 => sl_ref2 hG2 (RV_rfs 1 c) p k v s (fun _ => h2 _ (RW_Rel (RW_rfs c (by decide)))) (fun q e hq _ => absurd h0 (ix_no e hq (by omega))) (fun q e hq _ _ _ _ _ _ => absurd h0 (ix_no e hq (by omega))) (fun q t e hq _ _ _ _ _ _ _ _ => ix_no e hq (by omega) h0))) (fun q e hq h0 => hK _ _ (mid_rfs 2 c) (fun d2 Q2 h2 => sl_ref2 hG2 (RV_rfs 2 c) p k v s (fun z => absurd z (ix_no e hq (by omega))) (fun _ _ _ _ => h2 _ (RW_Rel (RW_rfs c (by decide)))) (fun _ _ _ a1 a2 a3 a4 a5 a6 => absurd ⟨a1, a2, a3, a4, a5, a6⟩ h0) (fun _ _ _ _ a1 a2 a3 a4 a5 a6 _ _ => h0 ⟨a1, a2, a3, a4, a5, a6⟩))) (fun q e hq a1 a2 a3 a4 a5 a6 h5 => hK _ _ (mid_rfs 5 c) (fun d2 Q2 h2 => sl_ref2 hG2 (RV_rfs 5 c) p k v s (fun z => absurd z (ix_no e hq (by omega))) (fun _ _ _ h0 => absurd ⟨a1, a2, a3, a4, a5, a6⟩ h0) (fun _ _ _ _ _ _ _ _ _ => h2 _ (RW_Rel (RW_rfs c (by decide)))) (fun q2 t e2 hq2 _ _ _ _ _ _ ht b1 => ?_))) (fun q t e hq a1 a2 a3 a4 a5 a6 ht b1 b2 => ?_)
  · obtain rfl : q2 = q := ix_eq e e2 hq hq2 (by omega)
    have h1 := b1 0 (Nat.zero_le _)
    have cv := RV_rp (RV_rfs 5 c) hq
    rw [rp_com cv (by omega), RV_27 (RV_rfs 5 c)] at h1
    have hcb := rp_cb cv htd (t := 0) (by omega)
    have h2' := ni_le h1 (by omega) (by omega)
    have h3 := h5 (by omega)
    rw [RW_10 c, rp_pm (RW_rp c hq) htd (by omega)] at h3
    omega
  · subst e
    have cq := RW_rp c hq
    have hc1 : ∀ j, j ≤ t → cm_ (ar q).2.2.1 (ar q).2.2.2.1 (ar q).1 T td j ≤ td := fun j hj => by
      have := b1 j hj
      rw [RW_10 c, rp_pm cq htd (by omega)] at this
      omega
    have hc2 : t + 1 < T → td < cm_ (ar q).2.2.1 (ar q).2.2.2.1 (ar q).1 T td (t + 1) := fun hj => by
      have := b2 hj
      rw [RW_10 c, rp_pm cq htd hj] at this
      exact this
    have hb := ms_nb (v := v) (s := s) (p := nI q) (h := mm_I M (pa q) 7) (nb_of 9999 rfl (by decide) (lo := 0) a3 (by decide) a4) (nb_w (nb_of 99 rfl (by decide) (lo := 1) a5 (by decide) a6) (by decide) (by decide)) ⟨q, by omega, by omega, rfl⟩ (nb_w cq.2.2.2.2.1.2.2 (by decide) (by omega))
    have hfq := fq_nat (n0 := -1) (w := k) hb (tl t) (c.2.2.2.1.2.1 t ht).2
    refine ⟨fun hno M' hF => ?_, fun fee hfee hf2 hf1 => ⟨fun hnf M' hF => ?_, fun n hopt => ⟨fun hN M' hF => ?_, fun hN a kk M' hF => ?_⟩⟩⟩
    · have hno1 : fq_ (-1) k v s (nI q) (mm_I M (pa q) 7) (tl t) = -1 := by
        rcases hfq with ⟨-, z, -⟩ | ⟨j, hj, -, -, z⟩
        · exact z
        · rw [z] at hno
          exact absurd hno (nI_m2 (by omega))
      have hfr : fr_ (wk_ x y) (vk_ x y) M M' := fr_slf hF
      have hf0 : fr_ (wk_ x y) (vk_ x y) M (mm_sI M' y 0 0) := fr_I hfr (by unfold wk_; omega)
      have hv : RV_ (mm_sI M' y 0 0) x y w0 s0 v0 bs L xs P T td N tp pa ar ta la tl pp tk pq := RV_fr (RW_V c) hf0 hF.2.1
      have e11 : mm_I (mm_sI M' y 0 0) x 11 = 5 := by
        rw [mI_na _ _ _ _ _ _ (by omega)]; exact hF.2.2.1
      have e12 : mm_I (mm_sI M' y 0 0) x 12 = mm_I M x 12 := by
        rw [mI_na _ _ _ _ _ _ (by omega)]; exact hF.2.2.2 12 (by decide)
      have e3 : mm_I (mm_sI M' y 0 0) y 3 = mm_I M y 3 := by
        rw [mI_ne _ _ _ _ _ (by decide), (hF.1 _ _ hy.1).2.1 (by show ¬ (y = x ∨ y = x + 11 ∨ y = x + 12); omega)]
      have e312 : mm_I (mm_sI M' y 0 0) y 3 = mm_I (mm_sI M' y 0 0) x 12 := by rw [e3, e12]; exact c.2.1.2.1
      refine hK _ _ (mid_fr c hfr (wk_ok M x y)) (fun d2 Q2 h2 => sl_ref hG2 c rfl hf0 (wk_ok M x y) (vk_ok x y) (fun k j h1 h2 => by unfold wk_; omega) (fun j h1 => by unfold wk_; omega) k v s hq a1 a2 a3 a4 a5 a6 ht hc1 hc2 (fun _ => ?_) (fun f2 hf2 e2 => ?_))
      · exact h2 _ (RW_Rel (RW_done hv e11 e312 (by decide)))
      · rw [hno1] at e2
        exact absurd e2.symm (nI_m1 (by omega))
    · have hsame : ∀ f2, f2 ≤ 5000 → fq_ (-1) k v s (nI q) (mm_I M (pa q) 7) (tl t) = nI f2 → f2 = fee := fun f2 h1 e2 => (nI_eq (by omega) (by omega)).mp (e2.symm.trans hf1)
      have hfr : fr_ (wk_ x y) (vk_ x y) M M' := fr_slf hF
      have hf0 : fr_ (wk_ x y) (vk_ x y) M (mm_sI M' y 0 0) := fr_I hfr (by unfold wk_; omega)
      have hv : RV_ (mm_sI M' y 0 0) x y w0 s0 v0 bs L xs P T td N tp pa ar ta la tl pp tk pq := RV_fr (RW_V c) hf0 hF.2.1
      have e11 : mm_I (mm_sI M' y 0 0) x 11 = 6 := by
        rw [mI_na _ _ _ _ _ _ (by omega)]; exact hF.2.2.1
      have e12 : mm_I (mm_sI M' y 0 0) x 12 = mm_I M x 12 := by
        rw [mI_na _ _ _ _ _ _ (by omega)]; exact hF.2.2.2 12 (by decide)
      have e3 : mm_I (mm_sI M' y 0 0) y 3 = mm_I M y 3 := by
        rw [mI_ne _ _ _ _ _ (by decide), (hF.1 _ _ hy.1).2.1 (by show ¬ (y = x ∨ y = x + 11 ∨ y = x + 12); omega)]
      have e312 : mm_I (mm_sI M' y 0 0) y 3 = mm_I (mm_sI M' y 0 0) x 12 := by rw [e3, e12]; exact c.2.1.2.1
      refine hK _ _ (mid_fr c hfr (wk_ok M x y)) (fun d2 Q2 h2 => sl_ref hG2 c rfl hf0 (wk_ok M x y) (vk_ok x y) (fun k j h1 h2 => by unfold wk_; omega) (fun j h1 => by unfold wk_; omega) k v s hq a1 a2 a3 a4 a5 a6 ht hc1 hc2 (fun z => ?_) (fun f2 hf2 e2 => ?_))
      · rw [hf1] at z
        exact absurd z (nI_m1 (by omega))
      · obtain rfl : f2 = fee := hsame f2 hf2 e2
        refine ⟨fun _ M3 hl => ?_, fun n ho => absurd ho.1 (hnf n)⟩
        have hf3 : fr_ (wk_ x y) (vk_ x y) (mm_sI M' y 0 0) M3 := fr_pf hl.1 hl.2.2 (fun z j _ => by rw [lsk_I hl])
        have hv3 := RV_fr hv hf3 (by show M3.2.2.2.1 (x + 11) 0 = _; rw [hl.2.2]; exact hF.2.1)
        exact h2 _ (RW_Rel (RW_done hv3 (by rw [lsk_I hl]; exact e11) (by rw [lsk_I hl, lsk_I hl]; exact e312) (by decide)))
    · have hsame : ∀ f2, f2 ≤ 5000 → fq_ (-1) k v s (nI q) (mm_I M (pa q) 7) (tl t) = nI f2 → f2 = fee := fun f2 h1 e2 => (nI_eq (by omega) (by omega)).mp (e2.symm.trans hf1)
      have hfr : fr_ (wk_ x y) (vk_ x y) M M' := fr_slf hF
      have hf0 : fr_ (wk_ x y) (vk_ x y) M (mm_sI M' y 0 0) := fr_I hfr (by unfold wk_; omega)
      have hv : RV_ (mm_sI M' y 0 0) x y w0 s0 v0 bs L xs P T td N tp pa ar ta la tl pp tk pq := RV_fr (RW_V c) hf0 hF.2.1
      have e11 : mm_I (mm_sI M' y 0 0) x 11 = 3 := by
        rw [mI_na _ _ _ _ _ _ (by omega)]; exact hF.2.2.1
      have e12 : mm_I (mm_sI M' y 0 0) x 12 = mm_I M x 12 := by
        rw [mI_na _ _ _ _ _ _ (by omega)]; exact hF.2.2.2 12 (by decide)
      have e3 : mm_I (mm_sI M' y 0 0) y 3 = mm_I M y 3 := by
        rw [mI_ne _ _ _ _ _ (by decide), (hF.1 _ _ hy.1).2.1 (by show ¬ (y = x ∨ y = x + 11 ∨ y = x + 12); omega)]
      have e312 : mm_I (mm_sI M' y 0 0) y 3 = mm_I (mm_sI M' y 0 0) x 12 := by rw [e3, e12]; exact c.2.1.2.1
      refine hK _ _ (mid_fr c hfr (wk_ok M x y)) (fun d2 Q2 h2 => sl_ref hG2 c rfl hf0 (wk_ok M x y) (vk_ok x y) (fun k j h1 h2 => by unfold wk_; omega) (fun j h1 => by unfold wk_; omega) k v s hq a1 a2 a3 a4 a5 a6 ht hc1 hc2 (fun z => ?_) (fun f2 hf2 e2 => ?_))
      · rw [hf1] at z
        exact absurd z (nI_m1 (by omega))
      · obtain rfl : f2 = fee := hsame f2 hf2 e2
        refine ⟨fun hnf => absurd hopt.1 (hnf n), fun n2 ho => ⟨fun _ M3 hl => ?_, fun hlt => by omega⟩⟩
        have hf3 : fr_ (wk_ x y) (vk_ x y) (mm_sI M' y 0 0) M3 := fr_pf hl.1 hl.2.1 (fun z j hz => hl.2.2 z j (fun e => hz (Or.inr (Or.inr (Or.inr (Or.inr e))))))
        have hv3 := RV_fr hv hf3 (by show M3.2.2.2.1 (x + 11) 0 = _; rw [hl.2.1]; exact hF.2.1)
        exact h2 _ (RW_Rel (RW_done hv3 (by rw [hl.2.2 _ _ (by omega)]; exact e11) (by rw [hl.2.2 _ _ (by omega), hl.2.2 _ _ (by omega)]; exact e312) (by decide)))
    · have hsame : ∀ f2, f2 ≤ 5000 → fq_ (-1) k v s (nI q) (mm_I M (pa q) 7) (tl t) = nI f2 → f2 = fee := fun f2 h1 e2 => (nI_eq (by omega) (by omega)).mp (e2.symm.trans hf1)
      have op : pa q + 3 < x ∨ (x + 12 < pa q ∧ pa q + 3 < y) ∨ y + 34 < pa q := by
        have c3 := cq.2.2.1
        have o0 := c3.1
        have o1 := c3.2.1
        have o2 := c3.2.2.1
        have o3 := c3.2.2.2
        unfold ou_ rg_ok_ at o0 o1 o2 o3
        omega
      have hc : fr_ (fun z j => wk_ x y z j ∨ (z = x ∧ j = 9) ∨ z = pa q ∨ z = pa q + 1) (fun z => vk_ x y z ∨ z = x + 3) M M' := fr_mono (fr_nwx (E := fun j => j = 9 ∨ j = 11) hF.1 (fun j hj => hF.2.2.2.2.2.2.2.2.2.2.2.2.2.2.2.2.2.2.2 j (by omega) (by omega))) (fun z j hz => by
        rcases hz with ⟨e1, e2 | e2⟩ | ⟨e1, e2 | e2 | e2 | e2 | e2⟩
        · exact Or.inr (Or.inl ⟨e1, e2⟩)
        · exact Or.inl (Or.inl ⟨e1, Or.inl e2⟩)
        · exact absurd e2 e1
        · exact Or.inl (Or.inr (Or.inl (by omega)))
        · exact Or.inl (Or.inr (Or.inl (by omega)))
        · exact Or.inr (Or.inr (Or.inl e2))
        · exact Or.inr (Or.inr (Or.inr e2))) (fun z hz => by
        rcases hz with e | e
        · exact Or.inl (Or.inl e)
        · exact Or.inr e)
      have hWok : wok_ M x y (fun z j => wk_ x y z j ∨ (z = x ∧ j = 9) ∨ z = pa q ∨ z = pa q + 1) := by
        rintro z j (e | e | e | e)
        · exact wk_ok M x y z j e
        · exact Or.inl (by unfold rg_ok_; omega)
        · rw [e]; exact Or.inr (Or.inl cq.2.1.1)
        · rw [e]; exact Or.inr (Or.inr (Or.inl cq.2.1.2.2.1))
      have hVok : vok_ x y (fun z => vk_ x y z ∨ z = x + 3) := by
        rintro z (e | e)
        · exact vk_ok x y z e
        · exact Or.inr (Or.inr (Or.inl e))
      have hf0 : fr_ (fun z j => wk_ x y z j ∨ (z = x ∧ j = 9) ∨ z = pa q ∨ z = pa q + 1) (fun z => vk_ x y z ∨ z = x + 3) M (mm_sI M' y 0 0) := fr_I hc (Or.inl (by unfold wk_; omega))
      refine hK _ _ (mid_fr c hc hWok) (fun d2 Q2 h2 => sl_ref hG2 c rfl hf0 hWok hVok (fun k j h1 h2 => by unfold wk_; omega) (fun j h1 => by unfold wk_; omega) k v s hq a1 a2 a3 a4 a5 a6 ht hc1 hc2 (fun z => ?_) (fun f2 hf2 e2 => ?_))
      · rw [hf1] at z
        exact absurd z (nI_m1 (by omega))
      · have hfb := hf2
        obtain rfl : f2 = fee := hsame f2 hf2 e2
        refine ⟨fun hnf => absurd hopt.1 (hnf n), fun n2 ho => ⟨fun hlt => by omega, fun _ M3 hl _ => ?_⟩⟩
        exact h2 _ (RW_Rel (RW_seal c hq hN a1 a2 a3 a4 a5 a6 (fz_i ho.1) (seal_n (opt_un hfb hopt ho) hF) hl))
