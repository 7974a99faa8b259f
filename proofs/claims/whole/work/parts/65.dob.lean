/-! lost, stock, fee -/
theorem rX_of {M : mm_M} {x y : Nat} {w : Int32} (e1 : mm_I M y 1 = w) (e11 : mm_I M x 11 = w) (hw : ¬ w = 4) (e2 : mm_I M y 2 = -1) (e3 : mm_I M y 3 = mm_I M x 12) : rX_ M x y := ⟨e1.trans e11.symm, e3, by rw [e11, if_neg hw]; exact e2⟩
theorem RW_lost {M : mm_M} {x y w0 s0 v0 bs L P T td N tp : Nat} {xs : Nat → Int32} {pa : Nat → Nat} {ar : Nat → pr_T} {ta la : Nat → Nat} {tl : Nat → List ps_L} {pp tk pq : Nat → Nat} (c : RW_ M x y w0 s0 v0 bs L xs P T td N tp pa ar ta la tl pp tk pq) {q t : Nat} (hq : q < P) (ht : t < T) (hl : (ar q).2.2.2.1 t = false) (hf : td < (ar q).2.2.1 t) : RW_ (mm_sI (mm_sI (mm_sI (mm_sI (mm_sI (mm_sI M (pa q + 3) t 1) x 11 0) y 0 0) y 1 0) y 2 (-1)) (y + 23) (30 * q + t) 1) x y w0 s0 v0 bs L xs P T td N tp pa (fun r => if r = q then ((ar q).1, (ar q).2.1, (ar q).2.2.1, (fun v => if v = t then true else (ar q).2.2.2.1 v), (ar q).2.2.2.2) else ar r) ta la tl pp tk pq := by
  have h7 := RW_T30 c
  have h8 := RW_P8 c
  have h9 := RW_N c
  have htd := RW_td c
  have hx := c.1.2.1
  have hy := c.1.2.2.1
  have hxy := c.1.1
  obtain ⟨W, hW⟩ : ∃ W : Nat → Nat → Prop, W = fun a j => wk_ x y a j ∨ (a = pa q + 3 ∧ j = t) ∨ (a = y + 23 ∧ j = 30 * q + t) := ⟨_, rfl⟩
  have cq := RW_rp c hq
  obtain ⟨c1, c2, c3, c4, c5, c6, c7, c8, c9, c10⟩ := cq
  have o0 := c3.1
  have o1 := c3.2.1
  have o2 := c3.2.2.1
  have o3 := c3.2.2.2
  unfold ou_ rg_ok_ at o0 o1 o2 o3
  have h : fr_ W (vk_ x y) M (mm_sI (mm_sI (mm_sI (mm_sI (mm_sI (mm_sI M (pa q + 3) t 1) x 11 0) y 0 0) y 1 0) y 2 (-1)) (y + 23) (30 * q + t) 1) := by
    subst hW
    exact fr_I (fr_I (fr_I (fr_I (fr_I (fr_I (fr_rf _ _ M) (by unfold wk_; omega)) (by unfold wk_; omega)) (by unfold wk_; omega)) (by unfold wk_; omega)) (by unfold wk_; omega)) (by unfold wk_; omega)
  have hWok : wok_ M x y W := by
    subst hW
    rintro a j (z | z | z)
    · exact wk_ok M x y a j z
    · rw [z.1]; exact Or.inr (Or.inr (Or.inr (Or.inr c2.2.2.2.2.2.2)))
    · exact Or.inl (by unfold rg_ok_; omega)
  have g3 : ∀ u, mm_I (mm_sI (mm_sI (mm_sI (mm_sI (mm_sI (mm_sI M (pa q + 3) t 1) x 11 0) y 0 0) y 1 0) y 2 (-1)) (y + 23) (30 * q + t) 1) (pa q + 3) u = if u = t then 1 else mm_I M (pa q + 3) u := fun u => by
    rw [mI_na _ _ _ _ _ _ (by omega), mI_na _ _ _ _ _ _ (by omega), mI_na _ _ _ _ _ _ (by omega), mI_na _ _ _ _ _ _ (by omega), mI_na _ _ _ _ _ _ (by omega), mm_I_sI]
    by_cases e : u = t
    · rw [if_pos ⟨rfl, e⟩, if_pos e]
    · rw [if_neg (fun z => e z.2), if_neg e]
  have g23 : ∀ u, mm_I (mm_sI (mm_sI (mm_sI (mm_sI (mm_sI (mm_sI M (pa q + 3) t 1) x 11 0) y 0 0) y 1 0) y 2 (-1)) (y + 23) (30 * q + t) 1) (y + 23) (30 * q + u) = if u = t then 1 else mm_I M (y + 23) (30 * q + u) := fun u => by
    rw [mm_I_sI]
    by_cases e : u = t
    · rw [if_pos ⟨rfl, by omega⟩, if_pos e]
    · rw [if_neg (fun z => e (by omega)), if_neg e, mI_na _ _ _ _ _ _ (by omega), mI_na _ _ _ _ _ _ (by omega), mI_na _ _ _ _ _ _ (by omega), mI_na _ _ _ _ _ _ (by omega), mI_na _ _ _ _ _ _ (by omega)]
  have hX : rX_ (mm_sI (mm_sI (mm_sI (mm_sI (mm_sI (mm_sI M (pa q + 3) t 1) x 11 0) y 0 0) y 1 0) y 2 (-1)) (y + 23) (30 * q + t) 1) x y := by
    refine rX_of (w := 0) (by (repeat (rw [mm_I_sI]; first | rw [if_neg (by omega)] | rw [if_pos (by omega)]))) (by (repeat (rw [mm_I_sI]; first | rw [if_neg (by omega)] | rw [if_pos (by omega)]))) (by decide) (by (repeat (rw [mm_I_sI]; first | rw [if_neg (by omega)] | rw [if_pos (by omega)]))) ?_
    (repeat (rw [mm_I_sI]; first | rw [if_neg (by omega)] | rw [if_pos (by omega)]))
    exact c.2.1.2.1
  have h11 : mm_R (mm_sI (mm_sI (mm_sI (mm_sI (mm_sI (mm_sI M (pa q + 3) t 1) x 11 0) y 0 0) y 1 0) y 2 (-1)) (y + 23) (30 * q + t) 1) (x + 11) 0 = some (x + 12) := hx.2.2.2.2.1
  generalize (mm_sI (mm_sI (mm_sI (mm_sI (mm_sI (mm_sI M (pa q + 3) t 1) x 11 0) y 0 0) y 1 0) y 2 (-1)) (y + 23) (30 * q + t) 1) = M2 at *
  have f0 : ∀ i j, i ≤ 2 → mm_I M2 (pa q + i) j = mm_I M (pa q + i) j := fun i j hi => by
    rcases (by omega : i = 0 ∨ i = 1 ∨ i = 2) with rfl | rfl | rfl
    · exact (h _ _ c2.1).2.1 j (by subst hW; unfold wk_; omega)
    · exact (h _ _ c2.2.2.1).2.1 j (by subst hW; unfold wk_; omega)
    · exact (h _ _ c2.2.2.2.2.1).2.1 j (by subst hW; unfold wk_; omega)
  have gy : ∀ k j, 14 ≤ k → k ≤ 22 → mm_I M2 (y + k) j = mm_I M (y + k) j := fun k j h1 h2 => fr_y h hy (by omega) (by subst hW; unfold wk_; omega)
  have fp : ∀ j, mm_I M2 (pa q) j = mm_I M (pa q) j := fun j => f0 0 j (by decide)
  have hnew : rp1_ M2 x y T td N q (pa q) ((ar q).1, (ar q).2.1, (ar q).2.2.1, (fun v => if v = t then true else (ar q).2.2.2.1 v), (ar q).2.2.2.2) := by
    refine ⟨by rw [(h _ _ (dsk_s0 hx)).2.2 (by unfold vk_; omega)]; exact c1, fr_prt h (by unfold vk_; omega) c2, c3, ?_, ?_, fun u hu => ?_, fun u h1 h2 => ?_, ?_, fun i hi => ?_, c10⟩
    · rw [fp, fp, fp]; exact c4
    · rw [fp, fp, gy 16 q (by decide) (by decide), gy 17 q (by decide) (by decide)]; exact c5
    · rw [f0 2 u (by decide), g3]
      refine ⟨(c6 u hu).1, ?_⟩
      show _ = mm_b (if u = t then true else (ar q).2.2.2.1 u)
      by_cases e : u = t
      · rw [if_pos e, if_pos e]; rfl
      · rw [if_neg e, if_neg e]; exact (c6 u hu).2
    · rw [g3, if_neg (by omega)]; exact c7 u h1 h2
    · obtain ⟨b1, b2, b3, b4⟩ := c8
      refine ⟨by rw [gy 14 q (by decide) (by decide)]; exact b1, by rw [gy 15 q (by decide) (by decide)]; exact b2, by rw [gy 18 q (by decide) (by decide)]; exact b3, fun u hu => ?_⟩
      obtain ⟨d1, d2, d3, d4⟩ := b4 u hu
      have ea := ak_lost (f := (ar q).2.2.1) (l := (ar q).2.2.2.1) (u := u) c10.2.2.2.1 ht hl hf hu
      refine ⟨by rw [gy 20 _ (by decide) (by decide)]; exact d1, ?_, ?_, ?_⟩
      · rw [g23]
        show _ = mm_b (if u = t then true else (ar q).2.2.2.1 u)
        by_cases e : u = t
        · rw [if_pos e, if_pos e]; rfl
        · rw [if_neg e, if_neg e]; exact d2
      · rw [gy 22 _ (by decide) (by decide), d3]
        exact congrArg nI ea.symm
      · rw [gy 21 _ (by decide) (by decide), d4]
        unfold ag_
        show _ = nI (if ak_ (ar q).2.2.1 (fun v => if v = t then true else (ar q).2.2.2.1 v) T td u = 1000000 then 1000000 else ak_ (ar q).2.2.1 (fun v => if v = t then true else (ar q).2.2.2.1 v) T td u + 2 * (ar q).1)
        rw [ea]
    · rw [f0 1 i (by decide), gy 19 _ (by decide) (by decide)]; exact c9 i hi
  exact ⟨rS_fr h hWok (vk_ok x y) h11 c.1, hX, rP_mod h hx hy (vk_ok x y) (by unfold vk_; omega) (by subst hW; unfold wk_; omega) c.2.2.1 hq (c.2.2.1.2.2.2.2.2 q) (Nat.le_refl _) h9 hnew (fun r i j hr hne hi => by have s0 := pa_sep c.2.2.1 hq hr hne hi (j := 0) (by decide); have s1 := pa_sep c.2.2.1 hq hr hne hi (j := 1) (by decide); have s2 := pa_sep c.2.2.1 hq hr hne hi (j := 2) (by decide); have s3 := pa_sep c.2.2.1 hq hr hne hi (j := 3) (by decide); have or_ := (RW_rp c hr).2.2.1; unfold ou_ rg_ok_ at or_; subst hW; unfold wk_; (rcases (by omega : i = 0 ∨ i = 1 ∨ i = 2 ∨ i = 3) with rfl | rfl | rfl | rfl) <;> omega) (fun r k hne h1 h2 => by subst hW; unfold wk_; omega) (fun r i hne hi => by subst hW; unfold wk_; omega) (fun r k t hne h1 h2 h3 => by subst hW; unfold wk_; omega), rT_fr h hx hy hWok (vk_ok x y) (by unfold vk_; omega) (by subst hW; unfold wk_; omega) (fun k j h1 h2 => by subst hW; unfold wk_; omega) c.2.2.2.1, rN_fr h hx hy hWok (vk_ok x y) (by unfold vk_; omega) (by subst hW; unfold wk_; omega) (fun k j h1 h2 => by subst hW; unfold wk_; omega) (fun i j hi => by have ht_ := (RW_n1 c hi).1; have hk_ := ht_.1; have hk2_ := ht_.2 q hq; have hks := ((RW_dN c).2.2 i hi).2.2.2; unfold ou_ rg_ok_ at hk_; have hp0 : tk i ≠ pa q := fun e => by { rw [e] at hks; cases hks.symm.trans c2.1 }; have hp3 : tk i ≠ pa q + 3 := fun e => by { rw [e] at hks; cases hks.symm.trans c2.2.2.2.2.2.2 }; subst hW; unfold wk_; omega) c.2.2.2.2.1, rB_fr h hx hy (by subst hW; unfold wk_; omega) (fun j => by subst hW; unfold wk_; omega) c.2.2.2.2.2⟩

theorem op_lost {G : mm_G} {d : Nat} {Q : Option Value → mm_M → Prop} {M : mm_M} {x y w0 s0 v0 bs L P T td N tp : Nat} {xs : Nat → Int32} {pa : Nat → Nat} {ar : Nat → pr_T} {ta la : Nat → Nat} {tl : Nat → List ps_L} {pp tk pq : Nat → Nat}  (c : RW_ M x y w0 s0 v0 bs L xs P T td N tp pa ar ta la tl pp tk pq) (p : Int32) (r : Int32) (hK : ∀ (rz : Int32) (M1 : mm_M), mid_ M1 y bs L xs → (∀ (d2 : Nat) (Q2 : Option Value → mm_M → Prop), (∀ M2 : mm_M, Rel_ x y w0 s0 v0 bs L xs M2 → Q2 (some (.int rz)) M2) → ma_ G jX12_lost (d2 + 2) 0 0 [.ref y, .int p, .int r] M1 Q2) → Q (some (.int rz)) M1) : ma_ G jX10_lost (d + 2) 0 0 [.ref x, .int p, .int r] M Q := by
  have h7 := RW_T30 c
  have h8 := RW_P8 c
  have h9 := RW_N c
  have htd := RW_td c
  have hx := c.1.2.1
  have hy := c.1.2.2.1
  have hxy := c.1.1
  have hA : ∀ {w : Int32} {q : Nat}, p = nI q → q < P → ¬ (p < 0 ∨ mm_I (mm_sI (mm_sI M x 11 w) y 0 0) y 26 ≤ p) := fun e hq => by rw [RV_26 (RV_rfs _ c)]; exact ix_no e hq (by omega)
  have hB : ∀ {w : Int32} {t : Nat}, r = nI t → t < T → ¬ (r < 0 ∨ mm_I (mm_sI (mm_sI M x 11 w) y 0 0) y 14 ≤ r) := fun e hq => by rw [RV_14 (RV_rfs _ c)]; exact ix_no e hq (by omega)
  refine k_X10_lost p r P T pa hx (RW_dP c) (fun h0 => hK _ _ (mid_rfs 1 c) (fun d2 Q2 h2 => k_X12_lost p r rfl (RV_rfs 1 c).1.2.2.1 P T (RV_26 (RV_rfs 1 c)) h8 (RV_14 (RV_rfs 1 c)) h7 (fun _ => h2 _ (RW_Rel (RW_rfs c (by decide)))) (fun _ => h2 _ (RW_Rel (RW_rfs c (by decide)))) (fun q t e e2 hq ht _ => (h0.elim (ix_no e hq (by omega)) (ix_no e2 ht (by omega))).elim) (fun q t e e2 hq ht _ _ => (h0.elim (ix_no e hq (by omega)) (ix_no e2 ht (by omega))).elim))) (fun q t e hq e2 ht h3 => hK _ _ (mid_rfs 7 c) (fun d2 Q2 h2 => k_X12_lost p r rfl (RV_rfs 7 c).1.2.2.1 P T (RV_26 (RV_rfs 7 c)) h8 (RV_14 (RV_rfs 7 c)) h7 (fun h0 => absurd h0 (hA e hq)) (fun h0 => absurd h0 (hB e2 ht)) (fun _ _ _ _ _ _ _ => h2 _ (RW_Rel (RW_rfs c (by decide)))) (fun q3 t3 e3 e4 hq3 ht3 h5 h6 => ?_))) (fun q t e hq e2 ht h3 h4 => ?_)
  · obtain rfl : q3 = q := ix_eq e e3 hq hq3 (by omega)
    obtain rfl : t3 = t := ix_eq e2 e4 ht ht3 (by omega)
    have cq := RW_rp c hq
    have cv := RV_rp (RV_rfs 7 c) hq
    rw [(cv.2.2.2.2.2.2.2.1.2.2.2 t3 ht).2.1] at h5
    have hl := mm_b0.mp h5
    rw [rp_com cv ht, RV_27 (RV_rfs 7 c)] at h6
    have ec : cm_ (ar q3).2.2.1 (ar q3).2.2.2.1 (ar q3).1 T td t3 = (ar q3).2.2.1 t3 := by unfold cm_; rw [if_neg (by rw [hl]; decide)]
    have hb := rp_f cq htd t3 ht
    rw [ec] at h6
    rw [(cq.2.2.2.2.2.1 t3 ht).1, (cq.2.2.2.2.2.1 t3 ht).2, hl, RW_10 c] at h3
    rcases h3 with h | h
    · exact absurd rfl h
    · exact absurd h (Int32.not_le.mpr h6)
  · have cq := RW_rp c hq
    have c3 := cq.2.2.1
    have o0 := c3.1
    have o1 := c3.2.1
    have o2 := c3.2.2.1
    have o3 := c3.2.2.2
    unfold ou_ rg_ok_ at o0 o1 o2 o3
    rw [(cq.2.2.2.2.2.1 t ht).2] at h3
    have hl := mm_b0.mp h3
    have hb := rp_f cq htd t ht
    rw [(cq.2.2.2.2.2.1 t ht).1, RW_10 c] at h4
    have hf : td < (ar q).2.2.1 t := ni_lt h4 (by omega) (by omega)
    have hm : mid_ (mm_sI (mm_sI M (pa q + 3) t 1) x 11 0) y bs L xs := mid_fr (W := fun a j => wk_ x y a j ∨ a = pa q + 3) (V := fun _ => False) c (fr_I (fr_I (fr_rf _ _ M) (Or.inr rfl)) (Or.inl (by unfold wk_; omega))) (by
      rintro a j (z | z)
      · exact wk_ok M x y a j z
      · rw [z]; exact Or.inr (Or.inr (Or.inr (Or.inr cq.2.1.2.2.2.2.2.2))))
    have e26 : mm_I (mm_sI (mm_sI (mm_sI M (pa q + 3) t 1) x 11 0) y 0 0) y 26 = nI P := by
      (repeat (rw [mm_I_sI]; first | rw [if_neg (by omega)] | rw [if_pos (by omega)]))
      exact RW_26 c
    have e14 : mm_I (mm_sI (mm_sI (mm_sI M (pa q + 3) t 1) x 11 0) y 0 0) y 14 = nI T := by
      (repeat (rw [mm_I_sI]; first | rw [if_neg (by omega)] | rw [if_pos (by omega)]))
      exact RW_14 c
    refine hK _ _ hm (fun d2 Q2 h2 => k_X12_lost p r rfl hy P T e26 h8 e14 h7 (fun h0 => absurd h0 (by rw [e26]; exact ix_no e hq (by omega))) (fun h0 => absurd h0 (by rw [e14]; exact ix_no e2 ht (by omega))) (fun q3 t3 e3 e4 hq3 ht3 h5 => ?_) (fun q3 t3 e3 e4 hq3 ht3 h5 h6 => ?_))
    · obtain rfl : q3 = q := ix_eq e e3 hq hq3 (by omega)
      obtain rfl : t3 = t := ix_eq e2 e4 ht ht3 (by omega)
      exfalso
      have z23 : mm_I (mm_sI (mm_sI (mm_sI M (pa q3 + 3) t3 1) x 11 0) y 0 0) (y + 23) (30 * q3 + t3) = 0 := by
        (repeat (rw [mm_I_sI]; first | rw [if_neg (by omega)] | rw [if_pos (by omega)]))
        rw [(cq.2.2.2.2.2.2.2.1.2.2.2 t3 ht).2.1, hl]; rfl
      have z20 : mm_I (mm_sI (mm_sI (mm_sI M (pa q3 + 3) t3 1) x 11 0) y 0 0) (y + 20) (30 * q3 + t3) = nI ((ar q3).2.2.1 t3) := by
        (repeat (rw [mm_I_sI]; first | rw [if_neg (by omega)] | rw [if_pos (by omega)]))
        exact (cq.2.2.2.2.2.2.2.1.2.2.2 t3 ht).1
      have z27 : mm_I (mm_sI (mm_sI (mm_sI M (pa q3 + 3) t3 1) x 11 0) y 0 0) y 27 = nI td := by
        (repeat (rw [mm_I_sI]; first | rw [if_neg (by omega)] | rw [if_pos (by omega)]))
        exact RW_27 c
      rcases h5 with h | h
      · exact h z23
      · unfold md_com at h
        rw [if_pos z23, z20, z27] at h
        exact absurd (ni_le h (by omega) (by omega)) (by omega)
    · obtain rfl : q3 = q := ix_eq e e3 hq hq3 (by omega)
      obtain rfl : t3 = t := ix_eq e2 e4 ht ht3 (by omega)
      exact h2 _ (RW_Rel (RW_lost c hq ht hl hf))

theorem RW_stock {M : mm_M} {x y w0 s0 v0 bs L P T td N tp : Nat} {xs : Nat → Int32} {pa : Nat → Nat} {ar : Nat → pr_T} {ta la : Nat → Nat} {tl : Nat → List ps_L} {pp tk pq : Nat → Nat} (c : RW_ M x y w0 s0 v0 bs L xs P T td N tp pa ar ta la tl pp tk pq) {q r k : Nat} (hq : q < P) (hr : r < 5) (hk : k ≤ 10000) : RW_ (mm_sI (mm_sI (mm_sI (mm_sI (mm_sI (mm_sI M (pa q + 1) r (nI k)) x 11 0) y 0 0) (y + 19) (5 * q + r) (nI k)) y 1 0) y 2 (-1)) x y w0 s0 v0 bs L xs P T td N tp pa (fun r_ => if r_ = q then ((ar q).1, (ar q).2.1, (ar q).2.2.1, (ar q).2.2.2.1, (fun v => if v = r then k else (ar q).2.2.2.2 v)) else ar r_) ta la tl pp tk pq := by
  have h7 := RW_T30 c
  have h8 := RW_P8 c
  have h9 := RW_N c
  have htd := RW_td c
  have hx := c.1.2.1
  have hy := c.1.2.2.1
  have hxy := c.1.1
  obtain ⟨W, hW⟩ : ∃ W : Nat → Nat → Prop, W = fun a j => wk_ x y a j ∨ (a = pa q + 1 ∧ j = r) ∨ (a = y + 19 ∧ j = 5 * q + r) := ⟨_, rfl⟩
  have cq := RW_rp c hq
  obtain ⟨c1, c2, c3, c4, c5, c6, c7, c8, c9, c10⟩ := cq
  have o0 := c3.1
  have o1 := c3.2.1
  have o2 := c3.2.2.1
  have o3 := c3.2.2.2
  unfold ou_ rg_ok_ at o0 o1 o2 o3
  have h : fr_ W (vk_ x y) M (mm_sI (mm_sI (mm_sI (mm_sI (mm_sI (mm_sI M (pa q + 1) r (nI k)) x 11 0) y 0 0) (y + 19) (5 * q + r) (nI k)) y 1 0) y 2 (-1)) := by
    subst hW
    exact fr_I (fr_I (fr_I (fr_I (fr_I (fr_I (fr_rf _ _ M) (by unfold wk_; omega)) (by unfold wk_; omega)) (by unfold wk_; omega)) (by unfold wk_; omega)) (by unfold wk_; omega)) (by unfold wk_; omega)
  have hWok : wok_ M x y W := by
    subst hW
    rintro a j (z | z | z)
    · exact wk_ok M x y a j z
    · rw [z.1]; exact Or.inr (Or.inr (Or.inl c2.2.2.1))
    · exact Or.inl (by unfold rg_ok_; omega)
  have g1 : ∀ u, mm_I (mm_sI (mm_sI (mm_sI (mm_sI (mm_sI (mm_sI M (pa q + 1) r (nI k)) x 11 0) y 0 0) (y + 19) (5 * q + r) (nI k)) y 1 0) y 2 (-1)) (pa q + 1) u = if u = r then nI k else mm_I M (pa q + 1) u := fun u => by
    rw [mI_na _ _ _ _ _ _ (by omega), mI_na _ _ _ _ _ _ (by omega), mI_na _ _ _ _ _ _ (by omega), mI_na _ _ _ _ _ _ (by omega), mI_na _ _ _ _ _ _ (by omega), mm_I_sI]
    by_cases e : u = r
    · rw [if_pos ⟨rfl, e⟩, if_pos e]
    · rw [if_neg (fun z => e z.2), if_neg e]
  have g19 : ∀ u, mm_I (mm_sI (mm_sI (mm_sI (mm_sI (mm_sI (mm_sI M (pa q + 1) r (nI k)) x 11 0) y 0 0) (y + 19) (5 * q + r) (nI k)) y 1 0) y 2 (-1)) (y + 19) (5 * q + u) = if u = r then nI k else mm_I M (y + 19) (5 * q + u) := fun u => by
    rw [mI_na _ _ _ _ _ _ (by omega), mI_na _ _ _ _ _ _ (by omega), mm_I_sI]
    by_cases e : u = r
    · rw [if_pos ⟨rfl, by omega⟩, if_pos e]
    · rw [if_neg (fun z => e (by omega)), if_neg e, mI_na _ _ _ _ _ _ (by omega), mI_na _ _ _ _ _ _ (by omega), mI_na _ _ _ _ _ _ (by omega)]
  have hX : rX_ (mm_sI (mm_sI (mm_sI (mm_sI (mm_sI (mm_sI M (pa q + 1) r (nI k)) x 11 0) y 0 0) (y + 19) (5 * q + r) (nI k)) y 1 0) y 2 (-1)) x y := by
    refine rX_of (w := 0) (by (repeat (rw [mm_I_sI]; first | rw [if_neg (by omega)] | rw [if_pos (by omega)]))) (by (repeat (rw [mm_I_sI]; first | rw [if_neg (by omega)] | rw [if_pos (by omega)]))) (by decide) (by (repeat (rw [mm_I_sI]; first | rw [if_neg (by omega)] | rw [if_pos (by omega)]))) ?_
    (repeat (rw [mm_I_sI]; first | rw [if_neg (by omega)] | rw [if_pos (by omega)]))
    exact c.2.1.2.1
  have h11 : mm_R (mm_sI (mm_sI (mm_sI (mm_sI (mm_sI (mm_sI M (pa q + 1) r (nI k)) x 11 0) y 0 0) (y + 19) (5 * q + r) (nI k)) y 1 0) y 2 (-1)) (x + 11) 0 = some (x + 12) := hx.2.2.2.2.1
  generalize (mm_sI (mm_sI (mm_sI (mm_sI (mm_sI (mm_sI M (pa q + 1) r (nI k)) x 11 0) y 0 0) (y + 19) (5 * q + r) (nI k)) y 1 0) y 2 (-1)) = M2 at *
  have f0 : ∀ j, mm_I M2 (pa q) j = mm_I M (pa q) j := fun j => (h _ _ c2.1).2.1 j (by subst hW; unfold wk_; omega)
  have f2 : ∀ j, mm_I M2 (pa q + 2) j = mm_I M (pa q + 2) j := fun j => (h _ _ c2.2.2.2.2.1).2.1 j (by subst hW; unfold wk_; omega)
  have f3 : ∀ j, mm_I M2 (pa q + 3) j = mm_I M (pa q + 3) j := fun j => (h _ _ c2.2.2.2.2.2.2).2.1 j (by subst hW; unfold wk_; omega)
  have gy : ∀ k j, 14 ≤ k → k ≤ 23 → k ≠ 19 → mm_I M2 (y + k) j = mm_I M (y + k) j := fun k j h1 h2 h3 => fr_y h hy (by omega) (by subst hW; unfold wk_; omega)
  have hnew : rp1_ M2 x y T td N q (pa q) ((ar q).1, (ar q).2.1, (ar q).2.2.1, (ar q).2.2.2.1, (fun v => if v = r then k else (ar q).2.2.2.2 v)) := by
    refine ⟨by rw [(h _ _ (dsk_s0 hx)).2.2 (by unfold vk_; omega)]; exact c1, fr_prt h (by unfold vk_; omega) c2, c3, ?_, ?_, fun u hu => ?_, fun u h1 h2 => ?_, ?_, fun i hi => ?_, c10⟩
    · rw [f0, f0, f0]; exact c4
    · rw [f0, f0, gy 16 q (by decide) (by decide) (by decide), gy 17 q (by decide) (by decide) (by decide)]; exact c5
    · rw [f2, f3]; exact c6 u hu
    · rw [f3]; exact c7 u h1 h2
    · obtain ⟨b1, b2, b3, b4⟩ := c8
      refine ⟨by rw [gy 14 q (by decide) (by decide) (by decide)]; exact b1, by rw [gy 15 q (by decide) (by decide) (by decide)]; exact b2, by rw [gy 18 q (by decide) (by decide) (by decide)]; exact b3, fun u hu => ?_⟩
      rw [gy 20 _ (by decide) (by decide) (by decide), gy 21 _ (by decide) (by decide) (by decide), gy 22 _ (by decide) (by decide) (by decide), gy 23 _ (by decide) (by decide) (by decide)]
      exact b4 u hu
    · rw [g1, g19]
      show _ = nI (if i = r then k else (ar q).2.2.2.2 i) ∧ _ = nI (if i = r then k else (ar q).2.2.2.2 i)
      by_cases e : i = r
      · rw [if_pos e, if_pos e, if_pos e]; exact ⟨rfl, rfl⟩
      · rw [if_neg e, if_neg e, if_neg e]; exact c9 i hi
  have hst : ∀ i, ((ar q).1, (ar q).2.1, (ar q).2.2.1, (ar q).2.2.2.1, (fun v => if v = r then k else (ar q).2.2.2.2 v)).2.2.2.2 i ≤ 10000 := fun i => by
    show (if i = r then k else (ar q).2.2.2.2 i) ≤ 10000
    split
    · exact hk
    · exact c.2.2.1.2.2.2.2.2 q i
  exact ⟨rS_fr h hWok (vk_ok x y) h11 c.1, hX, rP_mod h hx hy (vk_ok x y) (by unfold vk_; omega) (by subst hW; unfold wk_; omega) c.2.2.1 hq hst (Nat.le_refl _) h9 hnew (fun r i j hr hne hi => by have s0 := pa_sep c.2.2.1 hq hr hne hi (j := 0) (by decide); have s1 := pa_sep c.2.2.1 hq hr hne hi (j := 1) (by decide); have s2 := pa_sep c.2.2.1 hq hr hne hi (j := 2) (by decide); have s3 := pa_sep c.2.2.1 hq hr hne hi (j := 3) (by decide); have or_ := (RW_rp c hr).2.2.1; unfold ou_ rg_ok_ at or_; subst hW; unfold wk_; (rcases (by omega : i = 0 ∨ i = 1 ∨ i = 2 ∨ i = 3) with rfl | rfl | rfl | rfl) <;> omega) (fun r k hne h1 h2 => by subst hW; unfold wk_; omega) (fun r i hne hi => by subst hW; unfold wk_; omega) (fun r k t hne h1 h2 h3 => by subst hW; unfold wk_; omega), rT_fr h hx hy hWok (vk_ok x y) (by unfold vk_; omega) (by subst hW; unfold wk_; omega) (fun k j h1 h2 => by subst hW; unfold wk_; omega) c.2.2.2.1, rN_fr h hx hy hWok (vk_ok x y) (by unfold vk_; omega) (by subst hW; unfold wk_; omega) (fun k j h1 h2 => by subst hW; unfold wk_; omega) (fun i j hi => by have ht_ := (RW_n1 c hi).1; have hk_ := ht_.1; have hk2_ := ht_.2 q hq; have hks := ((RW_dN c).2.2 i hi).2.2.2; unfold ou_ rg_ok_ at hk_; have hp0 : tk i ≠ pa q := fun e => by { rw [e] at hks; cases hks.symm.trans c2.1 }; have hp3 : tk i ≠ pa q + 3 := fun e => by { rw [e] at hks; cases hks.symm.trans c2.2.2.2.2.2.2 }; subst hW; unfold wk_; omega) c.2.2.2.2.1, rB_fr h hx hy (by subst hW; unfold wk_; omega) (fun j => by subst hW; unfold wk_; omega) c.2.2.2.2.2⟩

theorem op_stock {G : mm_G} {d : Nat} {Q : Option Value → mm_M → Prop} {M : mm_M} {x y w0 s0 v0 bs L P T td N tp : Nat} {xs : Nat → Int32} {pa : Nat → Nat} {ar : Nat → pr_T} {ta la : Nat → Nat} {tl : Nat → List ps_L} {pp tk pq : Nat → Nat} (hG0 : G.2.2.2.1 0 = .ref w0) (c : RW_ M x y w0 s0 v0 bs L xs P T td N tp pa ar ta la tl pp tk pq) (p : Int32) (w : Int32) (n : Int32) (hK : ∀ (rz : Int32) (M1 : mm_M), mid_ M1 y bs L xs → (∀ (d2 : Nat) (Q2 : Option Value → mm_M → Prop), (∀ M2 : mm_M, Rel_ x y w0 s0 v0 bs L xs M2 → Q2 (some (.int rz)) M2) → ma_ G jX12_stock (d2 + 1) 0 0 [.ref y, .int p, .int w, .int n] M1 Q2) → Q (some (.int rz)) M1) : ma_ G jX10_stock (d + 1) 0 0 [.ref x, .int p, .int w, .int n] M Q := by
  have h7 := RW_T30 c
  have h8 := RW_P8 c
  have h9 := RW_N c
  have htd := RW_td c
  have hx := c.1.2.1
  have hy := c.1.2.2.1
  have hxy := c.1.1
  have hA : ∀ {z : Int32} {q : Nat}, p = nI q → q < P → ¬ (p < 0 ∨ mm_I (mm_sI (mm_sI M x 11 z) y 0 0) y 26 ≤ p) := fun e hq => by rw [RV_26 (RV_rfs _ c)]; exact ix_no e hq (by omega)
  have hB : ∀ {r : Nat}, w = nI r → r < 5 → ¬ ¬ (0 ≤ w ∧ w ≤ 4) := fun e hr h => ix_no e hr (by decide) (ix5_.mpr h)
  refine k_X10_stock p w n P T pa hx (RW_dP c) w0 hG0 c.1.2.2.2.1.1 (fun h0 => hK _ _ (mid_rfs 1 c) (fun d2 Q2 h2 => k_X12_stock p w n rfl (RV_rfs 1 c).1.2.2.1 P (RV_26 (RV_rfs 1 c)) h8 (fun _ => h2 _ (RW_Rel (RW_rfs c (by decide)))) (fun _ => h2 _ (RW_Rel (RW_rfs c (by decide)))) (fun q r e hq e2 hr _ => (h0.elim (ix_no e hq (by omega)) (ix_no e2 (n := 5) (by omega) (by decide))).elim) (fun q r e hq e2 hr _ _ _ => (h0.elim (ix_no e hq (by omega)) (ix_no e2 (n := 5) (by omega) (by decide))).elim))) (fun q r e hq e2 hr h3 => hK _ _ (mid_rfs 2 c) (fun d2 Q2 h2 => k_X12_stock p w n rfl (RV_rfs 2 c).1.2.2.1 P (RV_26 (RV_rfs 2 c)) h8 (fun h0 => absurd h0 (hA e hq)) (fun h0 => absurd h0 (hB e2 hr)) (fun _ _ _ _ _ _ _ => h2 _ (RW_Rel (RW_rfs c (by decide)))) (fun q3 r3 e3 hq3 e4 hr3 h4 h5 h6 => ?_))) (fun q r e hq e2 hr h3 h4 => ?_)
  · obtain rfl : q3 = q := ix_eq e e3 hq hq3 (by omega)
    obtain rfl : r3 = r := ix_eq (n := 5) e2 e4 hr (by omega) (by decide)
    exfalso
    obtain ⟨k, hk, rfl⟩ := nI_of2 (M := 10000) (n := 10000) rfl h4 (Int32.not_lt.mp h5)
    have hs := c.2.2.1.2.2.2.2.2 q3 r3
    rw [((RV_rp (RV_rfs 2 c) hq).2.2.2.2.2.2.2.2.1 r3 hr).2, nI_add] at h6
    have h6' := ni_le (b := 10000) h6 (by omega) (by decide)
    rw [((RW_rp c hq).2.2.2.2.2.2.2.2.1 r3 hr).1, show (10000 : Int32) = nI 10000 from rfl, pk_sub hs] at h3
    rcases h3 with h | h
    · exact h4 h
    · exact absurd (ni_lt h (by omega) (by omega)) (by omega)
  · have cq := RW_rp c hq
    have c3 := cq.2.2.1
    have o0 := c3.1
    have o1 := c3.2.1
    have o2 := c3.2.2.1
    have o3 := c3.2.2.2
    unfold ou_ rg_ok_ at o0 o1 o2 o3
    have hs := c.2.2.1.2.2.2.2.2 q r
    obtain ⟨k, hk, rfl⟩ := nI_of h3
    rw [(cq.2.2.2.2.2.2.2.2.1 r hr).1, show (10000 : Int32) = nI 10000 from rfl, pk_sub hs] at h4
    have hk2 : k ≤ 10000 - (ar q).2.2.2.2 r := ni_le h4 (by omega) (by omega)
    rw [(cq.2.2.2.2.2.2.2.2.1 r hr).1, nI_add]
    have hm : mid_ (mm_sI (mm_sI M (pa q + 1) r (nI ((ar q).2.2.2.2 r + k))) x 11 0) y bs L xs := mid_fr (W := fun a j => wk_ x y a j ∨ a = pa q + 1) (V := fun _ => False) c (fr_I (fr_I (fr_rf _ _ M) (Or.inr rfl)) (Or.inl (by unfold wk_; omega))) (by
      rintro a j (z | z)
      · exact wk_ok M x y a j z
      · rw [z]; exact Or.inr (Or.inr (Or.inl cq.2.1.2.2.1)))
    have e26 : mm_I (mm_sI (mm_sI (mm_sI M (pa q + 1) r (nI ((ar q).2.2.2.2 r + k))) x 11 0) y 0 0) y 26 = nI P := by
      (repeat (rw [mm_I_sI]; first | rw [if_neg (by omega)] | rw [if_pos (by omega)]))
      exact RW_26 c
    have e19 : mm_I (mm_sI (mm_sI (mm_sI M (pa q + 1) r (nI ((ar q).2.2.2.2 r + k))) x 11 0) y 0 0) (y + 19) (5 * q + r) = nI ((ar q).2.2.2.2 r) := by
      (repeat (rw [mm_I_sI]; first | rw [if_neg (by omega)] | rw [if_pos (by omega)]))
      exact (cq.2.2.2.2.2.2.2.2.1 r hr).2
    refine hK _ _ hm (fun d2 Q2 h2 => k_X12_stock p w (nI k) rfl hy P e26 h8 (fun h0 => absurd h0 (by rw [e26]; exact ix_no e hq (by omega))) (fun h0 => absurd h0 (hB e2 hr)) (fun q3 r3 e3 hq3 e4 hr3 h5 => ?_) (fun q3 r3 e3 hq3 e4 hr3 h5 h6 h7' => ?_))
    · obtain rfl : q3 = q := ix_eq e e3 hq hq3 (by omega)
      obtain rfl : r3 = r := ix_eq (n := 5) e2 e4 hr (by omega) (by decide)
      exfalso
      rw [e19, nI_add] at h5
      rcases h5 with h | h | h
      · exact h3 h
      · exact absurd (ni_lt (a := 10000) h (by decide) (by omega)) (by omega)
      · exact absurd (ni_lt (a := 10000) h (by decide) (by omega)) (by omega)
    · obtain rfl : q3 = q := ix_eq e e3 hq hq3 (by omega)
      obtain rfl : r3 = r := ix_eq (n := 5) e2 e4 hr (by omega) (by decide)
      rw [e19, nI_add]
      exact h2 _ (RW_Rel (RW_stock c hq hr (by omega)))
