/-! days pass, fees -/
theorem rn1_td {M : mm_M} {x y P td td' i a k p : Nat} {pa : Nat → Nat} (h : td ≤ td') (c : rn1_ M x y P td i a k p pa) : rn1_ M x y P td' i a k p pa := ⟨c.1, c.2.1, ⟨c.2.2.1.1, c.2.2.1.2.1, c.2.2.1.2.2.1, nb_w c.2.2.1.2.2.2 (Nat.le_refl _) h⟩, c.2.2.2⟩
theorem RW_pass {M M1 : mm_M} {x y w0 s0 v0 bs L P T td N tp : Nat} {xs : Nat → Int32} {pa : Nat → Nat} {ar : Nat → pr_T} {ta la : Nat → Nat} {tl : Nat → List ps_L} {pp tk pq : Nat → Nat} (c : RW_ M x y w0 s0 v0 bs L xs P T td N tp pa ar ta la tl pp tk pq) {n : Nat} (hn : td + n ≤ 10000) (hs : md_fs P (mm_sI (mm_sI (mm_sI M x 10 (nI (td + n))) x 11 0) y 0 0) M1 y) (h27 : mm_I M1 y 27 = nI (td + n)) (hB : ∀ q, q < P → md_BP M1 y q T (td + n) (td + n) (ar q).1 (ar q).2.1 (ar q).2.2.1 (ar q).2.2.2.1) : RW_ (mm_sI (mm_sI M1 y 1 0) y 2 (-1)) x y w0 s0 v0 bs L xs P T (td + n) N tp pa ar ta la tl pp tk pq := by
  have h7 := RW_T30 c
  have h8 := RW_P8 c
  have h9 := RW_N c
  have htd := RW_td c
  have hx := c.1.2.1
  have hy := c.1.2.2.1
  have hxy := c.1.1
  obtain ⟨W, hW⟩ : ∃ W : Nat → Nat → Prop, W = fun a j => wk_ x y a j ∨ (a = x ∧ j = 10) ∨ (a = y ∧ j = 27) ∨ (a = y + 18 ∧ j < P) ∨ a = y + 21 ∨ a = y + 22 := ⟨_, rfl⟩
  have h0 : fr_ W (vk_ x y) M (mm_sI (mm_sI (mm_sI M x 10 (nI (td + n))) x 11 0) y 0 0) := by
    subst hW
    exact fr_I (fr_I (fr_I (fr_rf _ _ M) (by unfold wk_; omega)) (by unfold wk_; omega)) (by unfold wk_; omega)
  have h1 : fr_ W (vk_ x y) (mm_sI (mm_sI (mm_sI M x 10 (nI (td + n))) x 11 0) y 0 0) M1 := fr_sk hs.1 (fun a j hw => hs.2 a j (by subst hW; omega) (by subst hW; omega) (by subst hW; omega) (by subst hW; omega))
  have h : fr_ W (vk_ x y) M (mm_sI (mm_sI M1 y 1 0) y 2 (-1)) := by
    refine fr_tr h0 ?_
    subst hW
    exact fr_I (fr_I h1 (by unfold wk_; omega)) (by unfold wk_; omega)
  have hWok : wok_ M x y W := by
    subst hW
    rintro a j (z | z | z | z | z | z)
    · exact wk_ok M x y a j z
    all_goals exact Or.inl (by unfold rg_ok_; omega)
  have e10 : mm_I (mm_sI (mm_sI M1 y 1 0) y 2 (-1)) x 10 = nI (td + n) := by
    rw [mI_na _ _ _ _ _ _ (by omega), mI_na _ _ _ _ _ _ (by omega), hs.2 x 10 (by omega) (by omega) (by omega) (by omega)]
    (repeat (rw [mm_I_sI]; first | rw [if_neg (by omega)] | rw [if_pos (by omega)]))
  have e27 : mm_I (mm_sI (mm_sI M1 y 1 0) y 2 (-1)) y 27 = nI (td + n) := by
    rw [mI_ne _ _ _ _ _ (by decide), mI_ne _ _ _ _ _ (by decide)]; exact h27
  have e11 : mm_I M1 x 11 = 0 := by
    rw [hs.2 x 11 (by omega) (by omega) (by omega) (by omega)]
    (repeat (rw [mm_I_sI]; first | rw [if_neg (by omega)] | rw [if_pos (by omega)]))
  have e12 : mm_I M1 x 12 = mm_I M x 12 := by
    rw [hs.2 x 12 (by omega) (by omega) (by omega) (by omega)]
    (repeat (rw [mm_I_sI]; first | rw [if_neg (by omega)] | rw [if_pos (by omega)]))
  have e3 : mm_I M1 y 3 = mm_I M y 3 := by
    rw [hs.2 y 3 (by omega) (by omega) (by omega) (by omega)]
    (repeat (rw [mm_I_sI]; first | rw [if_neg (by omega)] | rw [if_pos (by omega)]))
  have hX : rX_ (mm_sI (mm_sI M1 y 1 0) y 2 (-1)) x y := by
    refine rX_of (w := 0) (by (repeat (rw [mm_I_sI]; first | rw [if_neg (by omega)] | rw [if_pos (by omega)]))) (by (repeat (rw [mm_I_sI]; first | rw [if_neg (by omega)] | rw [if_pos (by omega)])); exact e11) (by decide) (by (repeat (rw [mm_I_sI]; first | rw [if_neg (by omega)] | rw [if_pos (by omega)]))) ?_
    (repeat (rw [mm_I_sI]; first | rw [if_neg (by omega)] | rw [if_pos (by omega)]))
    rw [e3, e12]; exact c.2.1.2.1
  have h11 : mm_R (mm_sI (mm_sI M1 y 1 0) y 2 (-1)) (x + 11) 0 = some (x + 12) := by
    show mm_R M1 (x + 11) 0 = _
    rw [md_sk_R hs.1]; exact hx.2.2.2.2.1
  have hB2 : ∀ q, q < P → md_BP (mm_sI (mm_sI M1 y 1 0) y 2 (-1)) y q T (td + n) (td + n) (ar q).1 (ar q).2.1 (ar q).2.2.1 (ar q).2.2.2.1 := fun q hq => md_BP_y (md_BP_y (hB q hq))
  generalize (mm_sI (mm_sI M1 y 1 0) y 2 (-1)) = M2 at *
  have gy : ∀ k j, 14 ≤ k → k ≤ 19 → ¬ (k = 18 ∧ j < P) → mm_I M2 (y + k) j = mm_I M (y + k) j := fun k j h1 h2 h3 => fr_y h hy (by omega) (by subst hW; unfold wk_; omega)
  have hP2 : rP_ M2 x y P T (td + n) N pa ar := by
    obtain ⟨p1, p2, p3, p4, p5, p6⟩ := c.2.2.1
    refine ⟨⟨p1.1, p1.2.1, hn, p1.2.2.2⟩, ⟨?_, ?_, e10, e27⟩, fun q hq => ?_, p4, fun q hq1 hq2 => ?_, p6⟩
    · rw [(h _ _ hx.1.1).2.1 7 (by subst hW; unfold wk_; omega)]; exact p2.1
    · rw [(h _ _ hy.1).2.1 26 (by subst hW; unfold wk_; omega)]; exact p2.2.1
    · obtain ⟨c1, c2, c3, c4, c5, c6, c7, c8, c9, c10⟩ := p3 q hq
      have o0 := c3.1
      have o1 := c3.2.1
      have o2 := c3.2.2.1
      have o3 := c3.2.2.2
      unfold ou_ rg_ok_ at o0 o1 o2 o3
      have f0 : ∀ i j, i ≤ 3 → mm_I M2 (pa q + i) j = mm_I M (pa q + i) j := fun i j hi => by
        rcases (by omega : i = 0 ∨ i = 1 ∨ i = 2 ∨ i = 3) with rfl | rfl | rfl | rfl
        · exact (h _ _ c2.1).2.1 j (by subst hW; unfold wk_; omega)
        · exact (h _ _ c2.2.2.1).2.1 j (by subst hW; unfold wk_; omega)
        · exact (h _ _ c2.2.2.2.2.1).2.1 j (by subst hW; unfold wk_; omega)
        · exact (h _ _ c2.2.2.2.2.2.2).2.1 j (by subst hW; unfold wk_; omega)
      have fp : ∀ j, mm_I M2 (pa q) j = mm_I M (pa q) j := fun j => f0 0 j (by decide)
      refine ⟨by rw [(h _ _ (dsk_s0 hx)).2.2 (by unfold vk_; omega)]; exact c1, fr_prt h (by unfold vk_; omega) c2, c3, ?_, ?_, fun u hu => ?_, fun u h1 h2 => ?_, hB2 q hq, fun i hi => ?_, c10.1, c10.2.1, by have := c10.2.2.1; omega, c10.2.2.2.1, fun a ha => by have := c10.2.2.2.2 a ha; omega⟩
      · rw [fp, fp, fp]; exact c4
      · rw [fp, fp, gy 16 q (by decide) (by decide) (by omega), gy 17 q (by decide) (by decide) (by omega)]; exact c5
      · rw [f0 2 u (by decide), f0 3 u (by decide)]; exact c6 u hu
      · rw [f0 3 u (by decide)]; exact c7 u h1 h2
      · rw [f0 1 i (by decide), gy 19 _ (by decide) (by decide) (by omega)]; exact c9 i hi
    · obtain ⟨z1, z2, z3, z4⟩ := p5 q hq1 hq2
      refine ⟨by rw [gy 16 q (by decide) (by decide) (by omega)]; exact z1, by rw [gy 17 q (by decide) (by decide) (by omega)]; exact z2, by rw [gy 18 q (by decide) (by decide) (by omega)]; exact z3, fun i hi => by rw [gy 19 _ (by decide) (by decide) (by omega)]; exact z4 i hi⟩
  have hN2 : rN_ M2 x y P (td + n) N pa pp tk pq := by
    have := rN_fr h hx hy hWok (vk_ok x y) (by unfold vk_; omega) (by subst hW; unfold wk_; omega) (fun k j h1 h2 => by subst hW; unfold wk_; omega) (fun i j hi => by have ht_ := (RW_n1 c hi).1.1; unfold ou_ rg_ok_ at ht_; subst hW; unfold wk_; omega) c.2.2.2.2.1
    exact ⟨this.1, this.2.1, fun i hi => rn1_td (by omega) (this.2.2 i hi)⟩
  exact ⟨rS_fr h hWok (vk_ok x y) h11 c.1, hX, hP2, rT_fr h hx hy hWok (vk_ok x y) (by unfold vk_; omega) (by subst hW; unfold wk_; omega) (fun k j h1 h2 => by subst hW; unfold wk_; omega) c.2.2.2.1, hN2, rB_fr h hx hy (by subst hW; unfold wk_; omega) (fun j => by subst hW; unfold wk_; omega) c.2.2.2.2.2⟩

theorem op_pass {G : mm_G} {d : Nat} {Q : Option Value → mm_M → Prop} {M : mm_M} {x y w0 s0 v0 bs L P T td N tp : Nat} {xs : Nat → Int32} {pa : Nat → Nat} {ar : Nat → pr_T} {ta la : Nat → Nat} {tl : Nat → List ps_L} {pp tk pq : Nat → Nat}  (c : RW_ M x y w0 s0 v0 bs L xs P T td N tp pa ar ta la tl pp tk pq) (w : Int32) (hK : ∀ (rz : Int32) (M1 : mm_M), mid_ M1 y bs L xs → (∀ (d2 : Nat) (Q2 : Option Value → mm_M → Prop), (∀ M2 : mm_M, Rel_ x y w0 s0 v0 bs L xs M2 → Q2 (some (.int rz)) M2) → ma_ G jX12_pass (d2 + 3) 0 0 [.ref y, .int w] M1 Q2) → Q (some (.int rz)) M1) : ma_ G jX10_pass (d + 1) 0 0 [.ref x, .int w] M Q := by
  have h7 := RW_T30 c
  have h8 := RW_P8 c
  have h9 := RW_N c
  have htd := RW_td c
  have hx := c.1.2.1
  have hy := c.1.2.2.1
  have hxy := c.1.1
  refine k_X10_pass w hx (fun h0 => hK _ _ (mid_rfs 2 c) (fun d2 Q2 h2 => k_X12_pass2 w rfl (RV_rfs 2 c).1.2.2.1 P T td (fun q => (ar q).1) (fun q => (ar q).2.1) (fun q => (ar q).2.2.1) (fun q => (ar q).2.2.2.1) (RV_26 (RV_rfs 2 c)) h8 (RV_14 (RV_rfs 2 c)) h7 (RV_27 (RV_rfs 2 c)) htd (fun q hq => (RV_rp (RV_rfs 2 c) hq).2.2.2.2.2.2.2.1) (fun q hq => (RW_rp c hq).2.2.2.2.2.2.2.2.2.2.2.2.1) (fun q hq => rp_f (RW_rp c hq) htd) (fun q hq => (RW_rp c hq).2.2.2.2.2.2.2.2.2.2.2.1) (fun q hq => (RW_rp c hq).2.2.2.2.2.2.2.2.2.2.1) (fun _ => h2 _ (RW_Rel (RW_rfs c (by decide)))) (fun n M1 e n1 n2 n3 _ _ _ => ?_))) (fun h3 h4 h5 => ?_)
  · exfalso
    subst e
    rw [RW_10 c, show (10000 : Int32) = nI 10000 from rfl, pk_sub htd] at h0
    rcases h0 with h | h | h
    · exact absurd (ni_lt (b := 1) h (by omega) (by decide)) (by omega)
    · exact absurd (ni_lt (a := 400) h (by decide) (by omega)) (by omega)
    · exact absurd (ni_lt h (by omega) (by omega)) (by omega)
  · obtain ⟨n, hn4, rfl⟩ := nI_of2 (M := 400) (n := 400) rfl (x := w) (fun z => h3 (Int32.lt_trans z (by decide))) (Int32.not_lt.mp h4)
    have hn1 : 1 ≤ n := ni_le (a := 1) (Int32.not_lt.mp h3) (by decide) (by omega)
    rw [RW_10 c, show (10000 : Int32) = nI 10000 from rfl, pk_sub htd] at h5
    have hn : td + n ≤ 10000 := by
      have := ni_le h5 (by omega) (by omega)
      omega
    rw [RW_10 c, nI_add]
    have h : fr_ (fun a j => wk_ x y a j ∨ (a = x ∧ j = 10)) (vk_ x y) M (mm_sI (mm_sI (mm_sI M x 10 (nI (td + n))) x 11 0) y 0 0) := fr_I (fr_I (fr_I (fr_rf _ _ M) (Or.inr ⟨rfl, rfl⟩)) (Or.inl (by unfold wk_; omega))) (Or.inl (by unfold wk_; omega))
    have hm : mid_ (mm_sI (mm_sI M x 10 (nI (td + n))) x 11 0) y bs L xs := mid_fr (W := fun a j => wk_ x y a j ∨ (a = x ∧ j = 10)) (V := fun _ => False) c (fr_I (fr_I (fr_rf _ _ M) (Or.inr ⟨rfl, rfl⟩)) (Or.inl (by unfold wk_; omega))) (by
      rintro a j (z | z)
      · exact wk_ok M x y a j z
      · exact Or.inl (by unfold rg_ok_; omega))
    have e26 : mm_I (mm_sI (mm_sI (mm_sI M x 10 (nI (td + n))) x 11 0) y 0 0) y 26 = nI P := by
      (repeat (rw [mm_I_sI]; first | rw [if_neg (by omega)] | rw [if_pos (by omega)]))
      exact RW_26 c
    have e14 : mm_I (mm_sI (mm_sI (mm_sI M x 10 (nI (td + n))) x 11 0) y 0 0) y 14 = nI T := by
      (repeat (rw [mm_I_sI]; first | rw [if_neg (by omega)] | rw [if_pos (by omega)]))
      exact RW_14 c
    have e27 : mm_I (mm_sI (mm_sI (mm_sI M x 10 (nI (td + n))) x 11 0) y 0 0) y 27 = nI td := by
      (repeat (rw [mm_I_sI]; first | rw [if_neg (by omega)] | rw [if_pos (by omega)]))
      exact RW_27 c
    have hrp : ∀ q, q < P → rp1_ (mm_sI (mm_sI (mm_sI M x 10 (nI (td + n))) x 11 0) y 0 0) x y T td N q (pa q) (ar q) := fun q hq => rp1_fr h hx hy (vk_ok x y) (by unfold vk_; omega) (fun k j h1 h2 => by unfold wk_; omega) (fun i j hi => by
      have ho := (RW_rp c hq).2.2.1
      unfold ou_ rg_ok_ at ho
      unfold wk_
      (rcases (by omega : i = 0 ∨ i = 1 ∨ i = 2 ∨ i = 3) with rfl | rfl | rfl | rfl) <;> omega) (RW_rp c hq)
    refine hK _ _ hm (fun d2 Q2 h2 => k_X12_pass2 (nI n) rfl hy P T td (fun q => (ar q).1) (fun q => (ar q).2.1) (fun q => (ar q).2.2.1) (fun q => (ar q).2.2.2.1) e26 h8 e14 h7 e27 htd (fun q hq => (hrp q hq).2.2.2.2.2.2.2.1) (fun q hq => (RW_rp c hq).2.2.2.2.2.2.2.2.2.2.2.2.1) (fun q hq => rp_f (RW_rp c hq) htd) (fun q hq => (RW_rp c hq).2.2.2.2.2.2.2.2.2.2.2.1) (fun q hq => (RW_rp c hq).2.2.2.2.2.2.2.2.2.2.1) (fun h0 => ?_) (fun n2 M1 e _ _ _ hs h27 hB => ?_))
    · exfalso
      rw [e27, nI_add] at h0
      rcases h0 with h0 | h0
      · exact h0 ⟨nI_le (a := 1) hn1 (by omega), nI_le (b := 400) hn4 (by decide)⟩
      · exact absurd (ni_lt (a := 10000) h0 (by decide) (by omega)) (by omega)
    · obtain rfl : n = n2 := (nI_eq (by omega) (by omega)).mp e
      exact h2 _ (RW_Rel (RW_pass c hn hs h27 hB))

theorem fr_fee {M M' : mm_M} {x y : Nat} {tr : Int32} (h : fee_F M M' x tr) : fr_ (wk_ x y) (vk_ x y) M M' := fr_mono (fr_nwx (E := fun j => j = 11) h.1 (fun j hj => h.2.2 j hj)) (fun a j z => by unfold wk_; omega) (fun _ z => z.elim)

theorem op_fee {G : mm_G} {d : Nat} {Q : Option Value → mm_M → Prop} {M : mm_M} {x y w0 s0 v0 bs L P T td N tp : Nat} {xs : Nat → Int32} {pa : Nat → Nat} {ar : Nat → pr_T} {ta la : Nat → Nat} {tl : Nat → List ps_L} {pp tk pq : Nat → Nat}  (c : RW_ M x y w0 s0 v0 bs L xs P T td N tp pa ar ta la tl pp tk pq) (r : Int32) (p : Int32) (k : Int32) (v : Int32) (s : Int32) (hK : ∀ (rz : Int32) (M1 : mm_M), mid_ M1 y bs L xs → (∀ (d2 : Nat) (Q2 : Option Value → mm_M → Prop), (∀ M2 : mm_M, Rel_ x y w0 s0 v0 bs L xs M2 → Q2 (some (.int rz)) M2) → ma_ G jX12_fee (d2 + 2) 0 0 [.ref y, .int r, .int p, .int k, .int v, .int s] M1 Q2) → Q (some (.int rz)) M1) : ma_ G jX10_fee (d + 5) 1 9 [.ref x, .int r, .int p, .int k, .int v, .int s] M Q := by
  have h7 := RW_T30 c
  have h8 := RW_P8 c
  have h9 := RW_N c
  have htd := RW_td c
  have hx := c.1.2.1
  have hy := c.1.2.2.1
  have hxy := c.1.1
  refine k_X10_fee r p k v s P T pa hx (RW_dP c) ta la tl c.2.2.2.1.1 c.2.2.2.1.2.1 (fun h0 => hK _ _ (mid_rfs 1 c) (fun d2 Q2 h2 => k_X12_fee r p k v s rfl (RV_rfs 1 c).1.2.2.1 P T (RV_26 (RV_rfs 1 c)) h8 (RV_14 (RV_rfs 1 c)) h7 (fun t => (tl t).length) (tn_ tl) (tm_ tl) (RV_TF (RV_rfs 1 c)) (fun _ => h2 _ (RW_Rel (RW_rfs c (by decide)))) (fun t q e ht e2 hq _ => (h0.elim (ix_no e ht (by omega)) (ix_no e2 hq (by omega))).elim) (fun t q e ht e2 hq _ _ _ _ _ _ => (h0.elim (ix_no e ht (by omega)) (ix_no e2 hq (by omega))).elim))) (fun t q e ht e2 hq h3 => hK _ _ (mid_rfs 2 c) (fun d2 Q2 h2 => k_X12_fee r p k v s rfl (RV_rfs 2 c).1.2.2.1 P T (RV_26 (RV_rfs 2 c)) h8 (RV_14 (RV_rfs 2 c)) h7 (fun t => (tl t).length) (tn_ tl) (tm_ tl) (RV_TF (RV_rfs 2 c)) (fun h0 => ?_) (fun _ _ _ _ _ _ _ => h2 _ (RW_Rel (RW_rfs c (by decide)))) (fun _ _ _ _ _ _ a1 a2 a3 a4 a5 a6 => absurd ⟨a1, a2, a3, a4, a5, a6⟩ h3))) (fun t q M' e ht e2 hq a1 a2 a3 a4 a5 a6 hF => ?_)
  · exfalso
    rw [RV_14 (RV_rfs 2 c), RV_26 (RV_rfs 2 c)] at h0
    exact h0.elim (ix_no e ht (by omega)) (ix_no e2 hq (by omega))
  · have hfr : fr_ (wk_ x y) (vk_ x y) M M' := fr_fee hF
    have h11 : mm_R M' (x + 11) 0 = some (x + 12) := by
      rw [(hF.1 _ _ (dsk_s6 hx)).2.2.2 id]; exact hx.2.2.2.2.1
    have hv : RV_ (mm_sI M' y 0 0) x y w0 s0 v0 bs L xs P T td N tp pa ar ta la tl pp tk pq := RV_fr (RW_V c) (fr_I hfr (by unfold wk_; omega)) h11
    have e3 : mm_I M' y 3 = mm_I M y 3 := (hF.1 _ _ hy.1).2.1 (by show ¬ y = x; omega) ▸ rfl
    refine hK _ _ (mid_fr c hfr (wk_ok M x y)) (fun d2 Q2 h2 => k_X12_fee r p k v s rfl hv.1.2.2.1 P T (RV_26 hv) h8 (RV_14 hv) h7 (fun t => (tl t).length) (tn_ tl) (tm_ tl) (RV_TF hv) (fun h0 => ?_) (fun _ _ _ _ _ _ h3 => absurd ⟨a1, a2, a3, a4, a5, a6⟩ h3) (fun t2 q2 e3' ht2 e4 hq2 _ _ _ _ _ _ => ?_))
    · exfalso
      rw [RV_14 hv, RV_26 hv] at h0
      exact h0.elim (ix_no e ht (by omega)) (ix_no e2 hq (by omega))
    · obtain rfl : t2 = t := ix_eq e e3' ht ht2 (by omega)
      obtain rfl : q2 = q := ix_eq e2 e4 hq hq2 (by omega)
      have e17 : mm_I (mm_sI M' y 0 0) (y + 17) q2 = mm_I M (pa q2) 7 := by
        rw [y0_ (by decide), fr_y hfr hy (by decide) (by unfold wk_; omega)]
        exact (RW_rp c hq).2.2.2.2.1.2.1
      rw [md_ft_t hv.2.2.1.2.2.1 hv.2.2.1.2.1 ht, e17]
      have hb := ms_nb (v := v) (s := s) (p := p) (h := mm_I M (pa q2) 7) (nb_of 9999 rfl (by decide) (lo := 0) a3 (by decide) a4) (nb_w (nb_of 99 rfl (by decide) (lo := 1) a5 (by decide) a6) (by decide) (by decide)) ⟨q2, by omega, by omega, e2⟩ (nb_w (RW_rp c hq).2.2.2.2.1.2.2 (by decide) (by omega))
      have hfin : RW_ (mm_sI (mm_sI (mm_sI M' y 0 0) y 1 0) y 2 (-1)) x y w0 s0 v0 bs L xs P T td N tp pa ar ta la tl pp tk pq := by
        refine RW_done hv ?_ ?_ (by decide)
        · rw [mI_na _ _ _ _ _ _ (by omega)]; exact hF.2.1
        · rw [mI_ne _ _ _ _ _ (by decide), mI_na _ _ x _ _ _ (by omega), e3, hF.2.2 12 (by decide)]; exact c.2.1.2.1
      rcases fq_nat (n0 := -1) (w := k) hb (tl t2) (c.2.2.2.1.2.1 t2 ht).2 with ⟨-, b1, b2⟩ | ⟨j, hj, -, b1, b2⟩
      · rw [b1, if_pos rfl]
        rw [b2] at h2
        exact h2 _ (RW_Rel hfin)
      · rw [b1, if_neg (nI_m1 (by omega))]
        rw [b2] at h2
        exact h2 _ (RW_Rel hfin)
