/-! the calls that ask -/
def RW_ (M : mm_M) (x y w0 s0 v0 bs L : Nat) (xs : Nat → Int32) (P T td N tp : Nat) (pa : Nat → Nat) (ar : Nat → pr_T) (ta la : Nat → Nat) (tl : Nat → List ps_L) (pp tk pq : Nat → Nat) : Prop := rS_ M x y w0 s0 v0 bs L xs ∧ rX_ M x y ∧ rP_ M x y P T td N pa ar ∧ rT_ M x y T ta la tl ∧ rN_ M x y P td N pa pp tk pq ∧ rB_ M x y tp
def mid_ (M : mm_M) (y bs L : Nat) (xs : Nat → Int32) : Prop := mm_sh M y = some (.inl 12) ∧ mm_sh M bs = some (.inr (10, L)) ∧ ∀ j, j < L → mm_I M bs j = xs j
section RWS
variable {M M' : mm_M} {x y w0 s0 v0 bs L P T td N tp : Nat} {xs : Nat → Int32} {pa : Nat → Nat} {ar : Nat → pr_T} {ta la : Nat → Nat} {tl : Nat → List ps_L} {pp tk pq : Nat → Nat}
theorem RW_Rel (c : RW_ M x y w0 s0 v0 bs L xs P T td N tp pa ar ta la tl pp tk pq) : Rel_ x y w0 s0 v0 bs L xs M := ⟨c.1, c.2.1, P, T, td, N, tp, pa, ar, ta, la, tl, pp, tk, pq, c.2.2.1, c.2.2.2.1, c.2.2.2.2.1, c.2.2.2.2.2⟩
theorem RW_mid (c : RW_ M x y w0 s0 v0 bs L xs P T td N tp pa ar ta la tl pp tk pq) : mid_ M y bs L xs := ⟨c.1.2.2.1.1, c.1.2.2.2.2.2.2.1, c.1.2.2.2.2.2.2.2⟩
theorem mid_fr {W : Nat → Nat → Prop} {V : Nat → Prop} (c : RW_ M x y w0 s0 v0 bs L xs P T td N tp pa ar ta la tl pp tk pq) (h : fr_ W V M M') (hW : wok_ M x y W) : mid_ M' y bs L xs := by
  refine ⟨(h _ _ c.1.2.2.1.1).1, (h _ _ c.1.2.2.2.2.2.2.1).1, fun j hj => ?_⟩
  rw [(h _ _ c.1.2.2.2.2.2.2.1).2.1 j (fun q => by cases wok_sh c.1.2.1 c.1.2.2.1 hW q c.1.2.2.2.2.2.2.1)]
  exact c.1.2.2.2.2.2.2.2 j hj
theorem RW_fr (R : RW_ M x y w0 s0 v0 bs L xs P T td N tp pa ar ta la tl pp tk pq) (h : fr_ (wk_ x y) (vk_ x y) M M') (h11 : mm_R M' (x + 11) 0 = some (x + 12)) (hX : rX_ M' x y) : RW_ M' x y w0 s0 v0 bs L xs P T td N tp pa ar ta la tl pp tk pq := by
  obtain ⟨rS, -, rP, rT, rN, rB⟩ := R
  have hxy := rS.1
  have hx := rS.2.1
  have hy := rS.2.2.1
  refine ⟨rS_fr h (wk_ok M x y) (vk_ok x y) h11 rS, hX, rP_fr h hx hy (vk_ok x y) (by unfold vk_; omega) (by unfold wk_; omega) (fun k j h1 h2 => by unfold wk_; omega) (fun q i j hq hi => ?_) rP, rT_fr h hx hy (wk_ok M x y) (vk_ok x y) (by unfold vk_; omega) (by unfold wk_; omega) (fun k j h1 h2 => by unfold wk_; omega) rT, rN_fr h hx hy (wk_ok M x y) (vk_ok x y) (by unfold vk_; omega) (by unfold wk_; omega) (fun k j h1 h2 => by unfold wk_; omega) (fun i j hi => ou_wk ((rN.2.2 i hi).1.1)) rN, rB_fr h hx hy (by unfold wk_; omega) (fun j => by unfold wk_; omega) rB⟩
  have ho := (rP.2.2.1 q hq).2.2.1
  rcases (by omega : i = 0 ∨ i = 1 ∨ i = 2 ∨ i = 3) with rfl | rfl | rfl | rfl
  · exact ou_wk ho.1
  · exact ou_wk ho.2.1
  · exact ou_wk ho.2.2.1
  · exact ou_wk ho.2.2.2
/-- the reference forgets what it threw -/
theorem RW_y0 (c : RW_ M x y w0 s0 v0 bs L xs P T td N tp pa ar ta la tl pp tk pq) : RW_ (mm_sI M y 0 0) x y w0 s0 v0 bs L xs P T td N tp pa ar ta la tl pp tk pq := by
  have hxy := c.1.1
  refine RW_fr c (fr_I (fr_rf _ _ M) (by unfold wk_; omega)) c.1.2.1.2.2.2.2.1 ?_
  unfold rX_
  rw [mI_ne _ _ _ _ _ (by decide), mI_ne _ _ _ _ _ (by decide), mI_ne _ _ _ _ _ (by decide), mI_na _ _ _ _ _ _ (by omega), mI_na _ _ _ _ _ _ (by omega), mI_na _ _ _ _ _ _ (by omega)]
  exact c.2.1
theorem RW_dP (c : RW_ M x y w0 s0 v0 bs L xs P T td N tp pa ar ta la tl pp tk pq) : dP_ M x P T pa := ⟨c.2.2.1.2.1.1, c.2.2.1.1.1, c.2.2.1.1.2.1, fun q hq => ⟨(c.2.2.1.2.2.1 q hq).1, (c.2.2.1.2.2.1 q hq).2.1, (c.2.2.1.2.2.1 q hq).2.2.2.1.2.2⟩⟩
theorem RW_rp (c : RW_ M x y w0 s0 v0 bs L xs P T td N tp pa ar ta la tl pp tk pq) {q : Nat} (hq : q < P) : rp1_ M x y T td N q (pa q) (ar q) := c.2.2.1.2.2.1 q hq
theorem RW_P8 (c : RW_ M x y w0 s0 v0 bs L xs P T td N tp pa ar ta la tl pp tk pq) : P ≤ 8 := c.2.2.1.1.1
theorem RW_T30 (c : RW_ M x y w0 s0 v0 bs L xs P T td N tp pa ar ta la tl pp tk pq) : T ≤ 30 := c.2.2.1.1.2.1
theorem RW_td (c : RW_ M x y w0 s0 v0 bs L xs P T td N tp pa ar ta la tl pp tk pq) : td ≤ 10000 := c.2.2.1.1.2.2.1
theorem RW_N (c : RW_ M x y w0 s0 v0 bs L xs P T td N tp pa ar ta la tl pp tk pq) : N ≤ 200 := c.2.2.1.1.2.2.2
theorem RW_26 (c : RW_ M x y w0 s0 v0 bs L xs P T td N tp pa ar ta la tl pp tk pq) : mm_I M y 26 = nI P := c.2.2.1.2.1.2.1
theorem RW_10 (c : RW_ M x y w0 s0 v0 bs L xs P T td N tp pa ar ta la tl pp tk pq) : mm_I M x 10 = nI td := c.2.2.1.2.1.2.2.1
theorem RW_27 (c : RW_ M x y w0 s0 v0 bs L xs P T td N tp pa ar ta la tl pp tk pq) : mm_I M y 27 = nI td := c.2.2.1.2.1.2.2.2
theorem RW_14 (c : RW_ M x y w0 s0 v0 bs L xs P T td N tp pa ar ta la tl pp tk pq) : mm_I M y 14 = nI T := c.2.2.2.1.2.2.2.1
theorem RW_38 (c : RW_ M x y w0 s0 v0 bs L xs P T td N tp pa ar ta la tl pp tk pq) : mm_I M y 38 = nI N := c.2.2.2.2.1.2.1
theorem RW_dT (c : RW_ M x y w0 s0 v0 bs L xs P T td N tp pa ar ta la tl pp tk pq) : dT_ M x T ta la := dTL_dT c.2.2.2.1.1
theorem RW_dN (c : RW_ M x y w0 s0 v0 bs L xs P T td N tp pa ar ta la tl pp tk pq) : dN_ M x N pp tk := c.2.2.2.2.1.1
theorem RW_n1 (c : RW_ M x y w0 s0 v0 bs L xs P T td N tp pa ar ta la tl pp tk pq) {i : Nat} (hi : i < N) : rn1_ M x y P td i (pp i) (tk i) (pq i) pa := c.2.2.2.2.1.2.2 i hi
theorem RW_pq (c : RW_ M x y w0 s0 v0 bs L xs P T td N tp pa ar ta la tl pp tk pq) : ∀ i, i < N → mm_I M (pp i) 0 = nI (pq i) ∧ pq i < P := fun i hi => (RW_n1 c hi).2.1
theorem RW_PP (c : RW_ M x y w0 s0 v0 bs L xs P T td N tp pa ar ta la tl pp tk pq) : md_PP M y N pq := ⟨RW_38 c, RW_N c, fun i hi => by
  have h := RW_n1 c hi
  have := RW_P8 c
  exact ⟨h.2.2.2.1.1.trans h.2.1.1, by have := h.2.1.2; omega⟩⟩
theorem RW_TF (c : RW_ M x y w0 s0 v0 bs L xs P T td N tp pa ar ta la tl pp tk pq) : ∀ t, t < T → md_TF M y t ((tl t).length) (tn_ tl) (tm_ tl) := fun t ht => rTL_F c.2.2.2.1.2.2.1 c.2.2.2.1.2.1 ht
theorem RW_kd (c : RW_ M x y w0 s0 v0 bs L xs P T td N tp pa ar ta la tl pp tk pq) {i : Nat} (hi : i < N) : kd_ M (pp i) (pa (pq i)) = md_ho M y pq i := rn_kd (RW_n1 c hi) (RW_rp c (RW_pq c i hi).2) (RW_td c) rfl
theorem RW_hg (c : RW_ M x y w0 s0 v0 bs L xs P T td N tp pa ar ta la tl pp tk pq) {i : Nat} (hi : i < N) : hg_ M ta la (pp i) T = md_hf M y (fun t => (tl t).length) (tn_ tl) (tm_ tl) i T := rn_hg ((RW_dN c).2.2 i hi).2.1 (RW_n1 c hi) (RW_P8 c) c.2.2.2.1 T (Nat.le_refl _)
end RWS
theorem ix_no {p : Int32} {q n : Nat} (e : p = nI q) (h : q < n) (hn : n < 2 ^ 31) : ¬ (p < 0 ∨ nI n ≤ p) := by
  subst e
  rintro (h1 | h1)
  · exact nI_pos (by omega) h1
  · exact nI_ge h hn h1
theorem ix_eq {p : Int32} {q r n : Nat} (e : p = nI q) (e2 : p = nI r) (hq : q < n) (hr : r < n) (hn : n < 2 ^ 31) : r = q := (nI_eq (by omega) (by omega)).mp (e2.symm.trans e)
theorem ix5_ {w : Int32} : (w < 0 ∨ nI 5 ≤ w) ↔ ¬ (0 ≤ w ∧ w ≤ 4) := by
  constructor
  · rintro (h | h) ⟨h1, h2⟩
    · exact absurd h1 (Int32.not_le.mpr h)
    · exact absurd (Int32.le_trans h h2) (by decide)
  · intro h
    by_cases h1 : w < 0
    · exact Or.inl h1
    · refine Or.inr ?_
      rcases pk_ix w (n := 5) (by decide) with q | q | ⟨j, hj, rfl⟩
      · exact absurd q h1
      · exact q
      · exact absurd ⟨nI_pos' (by omega), nI_le (b := 4) (by omega) (by decide)⟩ h

theorem op_fault {G : mm_G} {d : Nat} {Q : Option Value → mm_M → Prop} {M : mm_M} {x y w0 s0 v0 bs L P T td N tp : Nat} {xs : Nat → Int32} {pa : Nat → Nat} {ar : Nat → pr_T} {ta la : Nat → Nat} {tl : Nat → List ps_L} {pp tk pq : Nat → Nat}  (c : RW_ M x y w0 s0 v0 bs L xs P T td N tp pa ar ta la tl pp tk pq) (hK : ∀ (rz : Int32) (M1 : mm_M), mid_ M1 y bs L xs → (∀ (d2 : Nat) (Q2 : Option Value → mm_M → Prop), (∀ M2 : mm_M, Rel_ x y w0 s0 v0 bs L xs M2 → Q2 (some (.int rz)) M2) → ma_ G jX12_fault d2 0 0 [.ref y] M1 Q2) → Q (some (.int rz)) M1) : ma_ G jX10_fault d 0 0 [.ref x] M Q := by
  have c0 := RW_y0 c
  have hx := c.1.2.1
  have hm := RW_mid c
  refine k_X10_fault hx (hK _ _ hm (fun d2 Q2 h2 => k_X12_fault c.1.2.2.1 ?_))
  rw [mI_ne _ _ _ _ _ (by decide), c.2.1.2.1]
  exact h2 _ (RW_Rel c0)

theorem op_trouble {G : mm_G} {d : Nat} {Q : Option Value → mm_M → Prop} {M : mm_M} {x y w0 s0 v0 bs L P T td N tp : Nat} {xs : Nat → Int32} {pa : Nat → Nat} {ar : Nat → pr_T} {ta la : Nat → Nat} {tl : Nat → List ps_L} {pp tk pq : Nat → Nat}  (c : RW_ M x y w0 s0 v0 bs L xs P T td N tp pa ar ta la tl pp tk pq) (hK : ∀ (rz : Int32) (M1 : mm_M), mid_ M1 y bs L xs → (∀ (d2 : Nat) (Q2 : Option Value → mm_M → Prop), (∀ M2 : mm_M, Rel_ x y w0 s0 v0 bs L xs M2 → Q2 (some (.int rz)) M2) → ma_ G jX12_trouble d2 0 0 [.ref y] M1 Q2) → Q (some (.int rz)) M1) : ma_ G jX10_trouble d 0 0 [.ref x] M Q := by
  have c0 := RW_y0 c
  have hx := c.1.2.1
  have hm := RW_mid c
  refine k_X10_trouble hx (hK _ _ hm (fun d2 Q2 h2 => k_X12_trouble c.1.2.2.1 ?_))
  rw [mI_ne _ _ _ _ _ (by decide), c.2.1.1]
  exact h2 _ (RW_Rel c0)

theorem op_where {G : mm_G} {d : Nat} {Q : Option Value → mm_M → Prop} {M : mm_M} {x y w0 s0 v0 bs L P T td N tp : Nat} {xs : Nat → Int32} {pa : Nat → Nat} {ar : Nat → pr_T} {ta la : Nat → Nat} {tl : Nat → List ps_L} {pp tk pq : Nat → Nat}  (c : RW_ M x y w0 s0 v0 bs L xs P T td N tp pa ar ta la tl pp tk pq) (hK : ∀ (rz : Int32) (M1 : mm_M), mid_ M1 y bs L xs → (∀ (d2 : Nat) (Q2 : Option Value → mm_M → Prop), (∀ M2 : mm_M, Rel_ x y w0 s0 v0 bs L xs M2 → Q2 (some (.int rz)) M2) → ma_ G jX12_where d2 0 0 [.ref y] M1 Q2) → Q (some (.int rz)) M1) : ma_ G jX10_where d 0 0 [.ref x] M Q := by
  have c0 := RW_y0 c
  have hx := c.1.2.1
  have hm := RW_mid c
  refine k_X10_where hx (fun h4 => hK _ _ hm (fun d2 Q2 h2 => k_X12_where c.1.2.2.1 ?_)) (fun h4 => hK _ _ hm (fun d2 Q2 h2 => k_X12_where c.1.2.2.1 ?_))
  · rw [mI_ne _ _ _ _ _ (by decide), c.2.1.2.2, if_pos h4]
    exact h2 _ (RW_Rel c0)
  · rw [mI_ne _ _ _ _ _ (by decide), c.2.1.2.2, if_neg h4]
    exact h2 _ (RW_Rel c0)

theorem op_count {G : mm_G} {d : Nat} {Q : Option Value → mm_M → Prop} {M : mm_M} {x y w0 s0 v0 bs L P T td N tp : Nat} {xs : Nat → Int32} {pa : Nat → Nat} {ar : Nat → pr_T} {ta la : Nat → Nat} {tl : Nat → List ps_L} {pp tk pq : Nat → Nat}  (c : RW_ M x y w0 s0 v0 bs L xs P T td N tp pa ar ta la tl pp tk pq) (w : Int32) (hK : ∀ (rz : Int32) (M1 : mm_M), mid_ M1 y bs L xs → (∀ (d2 : Nat) (Q2 : Option Value → mm_M → Prop), (∀ M2 : mm_M, Rel_ x y w0 s0 v0 bs L xs M2 → Q2 (some (.int rz)) M2) → ma_ G jX12_count d2 0 0 [.ref y, .int w] M1 Q2) → Q (some (.int rz)) M1) : ma_ G jX10_count d 0 0 [.ref x, .int w] M Q := by
  have c0 := RW_y0 c
  have hx := c.1.2.1
  have hm := RW_mid c
  refine k_X10_count w hx (fun e => hK _ _ hm (fun d2 Q2 h2 => by subst e; exact k_X12_count 0 rfl c0.1.2.2.1 (fun _ => (by rw [RW_26 c0, ← (RW_dP c).1]; exact h2 _ (RW_Rel c0))) (fun h9 => absurd h9 (by decide)) (fun h9 => absurd h9 (by decide)) (fun h9 => absurd h9 (by decide)) (fun h9 => absurd h9 (by decide)) (fun h9 => absurd h9 (by decide)))) (fun e => hK _ _ hm (fun d2 Q2 h2 => by subst e; exact k_X12_count 1 rfl c0.1.2.2.1 (fun h9 => absurd h9 (by decide)) (fun _ => (by rw [RW_14 c0, ← (RW_dT c).1]; exact h2 _ (RW_Rel c0))) (fun h9 => absurd h9 (by decide)) (fun h9 => absurd h9 (by decide)) (fun h9 => absurd h9 (by decide)) (fun h9 => absurd h9 (by decide)))) (fun e => hK _ _ hm (fun d2 Q2 h2 => by subst e; exact k_X12_count 2 rfl c0.1.2.2.1 (fun h9 => absurd h9 (by decide)) (fun h9 => absurd h9 (by decide)) (fun _ => (by rw [RW_38 c0, ← (RW_dN c).1]; exact h2 _ (RW_Rel c0))) (fun h9 => absurd h9 (by decide)) (fun h9 => absurd h9 (by decide)) (fun h9 => absurd h9 (by decide)))) (fun e => hK _ _ hm (fun d2 Q2 h2 => by subst e; exact k_X12_count 3 rfl c0.1.2.2.1 (fun h9 => absurd h9 (by decide)) (fun h9 => absurd h9 (by decide)) (fun h9 => absurd h9 (by decide)) (fun _ => (by rw [RW_27 c0, ← RW_10 c]; exact h2 _ (RW_Rel c0))) (fun h9 => absurd h9 (by decide)) (fun h9 => absurd h9 (by decide)))) (fun e => hK _ _ hm (fun d2 Q2 h2 => by subst e; exact k_X12_count 4 rfl c0.1.2.2.1 (fun h9 => absurd h9 (by decide)) (fun h9 => absurd h9 (by decide)) (fun h9 => absurd h9 (by decide)) (fun h9 => absurd h9 (by decide)) (fun _ => (by rw [c0.2.2.2.2.2.2.1, ← c.2.2.2.2.2.1]; exact h2 _ (RW_Rel c0))) (fun h9 => absurd h9 (by decide)))) (fun h => hK _ _ hm (fun d2 Q2 h2 => k_X12_count w rfl c0.1.2.2.1 (fun e => absurd h (by subst e; decide)) (fun e => absurd h (by subst e; decide)) (fun e => absurd h (by subst e; decide)) (fun e => absurd h (by subst e; decide)) (fun e => absurd h (by subst e; decide)) (fun _ => h2 _ (RW_Rel c0))))

theorem op_force {G : mm_G} {d : Nat} {Q : Option Value → mm_M → Prop} {M : mm_M} {x y w0 s0 v0 bs L P T td N tp : Nat} {xs : Nat → Int32} {pa : Nat → Nat} {ar : Nat → pr_T} {ta la : Nat → Nat} {tl : Nat → List ps_L} {pp tk pq : Nat → Nat}  (c : RW_ M x y w0 s0 v0 bs L xs P T td N tp pa ar ta la tl pp tk pq) (p : Int32) (hK : ∀ (rz : Int32) (M1 : mm_M), mid_ M1 y bs L xs → (∀ (d2 : Nat) (Q2 : Option Value → mm_M → Prop), (∀ M2 : mm_M, Rel_ x y w0 s0 v0 bs L xs M2 → Q2 (some (.int rz)) M2) → ma_ G jX12_force (d2 + 3) 0 0 [.ref y, .int p] M1 Q2) → Q (some (.int rz)) M1) : ma_ G jX10_force (d + 4) 0 0 [.ref x, .int p] M Q := by
  have c0 := RW_y0 c
  have hx := c.1.2.1
  have hm := RW_mid c
  have h7 := RW_T30 c
  have h8 := RW_P8 c
  have htd := RW_td c
  refine k_X10_force p P T pa hx (RW_dP c) (fun h0 => hK _ _ hm (fun d2 Q2 h2 => k_X12_force p rfl c0.1.2.2.1 P T (RW_26 c0) h8 (RW_14 c0) h7 (fun _ => h2 _ (RW_Rel c0)) (fun q t e hq _ _ _ => absurd h0 (ix_no e hq (by omega))))) (fun q t e hq ht h3 h4 => hK _ _ hm (fun d2 Q2 h2 => k_X12_force p rfl c0.1.2.2.1 P T (RW_26 c0) h8 (RW_14 c0) h7 (fun h0 => absurd h0 (by rw [RW_26 c0]; exact ix_no e hq (by omega))) (fun q2 t2 e2 hq2 ht2 h5 h6 => ?_)))
  obtain rfl : q2 = q := ix_eq e e2 hq hq2 (by omega)
  rw [RW_10 c] at h3 h4
  rw [RW_27 c0] at h5 h6
  have g : ∀ j, j < T → (pc_ M (pa q2) T (nI td) j = -2 ↔ nI td < md_com (mm_sI M y 0 0) y (30 * q2 + j)) := fun j hj => by
    rw [rp_pm (RW_rp c hq) htd hj, rp_com (RW_rp c0 hq) hj]
    have := rp_cb (RW_rp c hq) htd hj
    exact (nI_ltI (by omega) (by omega)).symm
  have : t2 = t := by
    rcases Nat.lt_trichotomy t2 t with h | h | h
    · exact absurd ((g t2 (by omega)).mpr (h6 (by omega))) (h3 t2 h)
    · exact h
    · exact absurd ((g t (by omega)).mp (h4 (by omega))) (Int32.not_lt.mpr (h5 t h))
  subst this
  exact h2 _ (RW_Rel c0)

theorem op_came {G : mm_G} {d : Nat} {Q : Option Value → mm_M → Prop} {M : mm_M} {x y w0 s0 v0 bs L P T td N tp : Nat} {xs : Nat → Int32} {pa : Nat → Nat} {ar : Nat → pr_T} {ta la : Nat → Nat} {tl : Nat → List ps_L} {pp tk pq : Nat → Nat}  (c : RW_ M x y w0 s0 v0 bs L xs P T td N tp pa ar ta la tl pp tk pq) (p : Int32) (r : Int32) (hK : ∀ (rz : Int32) (M1 : mm_M), mid_ M1 y bs L xs → (∀ (d2 : Nat) (Q2 : Option Value → mm_M → Prop), (∀ M2 : mm_M, Rel_ x y w0 s0 v0 bs L xs M2 → Q2 (some (.int rz)) M2) → ma_ G jX12_came (d2 + 2) 0 0 [.ref y, .int p, .int r] M1 Q2) → Q (some (.int rz)) M1) : ma_ G jX10_came (d + 3) 0 0 [.ref x, .int p, .int r] M Q := by
  have c0 := RW_y0 c
  have hx := c.1.2.1
  have hm := RW_mid c
  have h7 := RW_T30 c
  have h8 := RW_P8 c
  have htd := RW_td c
  have hA : ∀ {q : Nat}, p = nI q → q < P → ¬ (p < 0 ∨ mm_I (mm_sI M y 0 0) y 26 ≤ p) := fun e hq => by rw [RW_26 c0]; exact ix_no e hq (by omega)
  have hB : ∀ {t : Nat}, r = nI t → t < T → ¬ (r < 0 ∨ mm_I (mm_sI M y 0 0) y 14 ≤ r) := fun e hq => by rw [RW_14 c0]; exact ix_no e hq (by omega)
  refine k_X10_came p r P T pa hx (RW_dP c) (fun h0 => hK _ _ hm (fun d2 Q2 h2 => k_X12_came p r rfl c0.1.2.2.1 P T (RW_26 c0) h8 (RW_14 c0) h7 (fun _ => h2 _ (RW_Rel c0)) (fun _ => h2 _ (RW_Rel c0)) (fun q t e e2 hq ht _ => (h0.elim (ix_no e hq (by omega)) (ix_no e2 ht (by omega))).elim) (fun q t e e2 hq ht _ => (h0.elim (ix_no e hq (by omega)) (ix_no e2 ht (by omega))).elim))) (fun q t e hq e2 ht => ?_)
  refine hK _ _ hm (fun d2 Q2 h2 => k_X12_came p r rfl c0.1.2.2.1 P T (RW_26 c0) h8 (RW_14 c0) h7 (fun h0 => absurd h0 (hA e hq)) (fun h0 => absurd h0 (hB e2 ht)) (fun q3 t3 e3 e4 hq3 ht3 h5 => ?_) (fun q3 t3 e3 e4 hq3 ht3 h5 => ?_))
  all_goals
    obtain rfl : q3 = q := ix_eq e e3 hq hq3 (by omega)
    obtain rfl : t3 = t := ix_eq e2 e4 ht ht3 (by omega)
    rw [rp_com (RW_rp c0 hq) ht] at h5
    rw [RW_27 c0] at h5
    rw [RW_10 c, rp_pc (RW_rp c hq) htd ht] at h2
    have hcb := rp_cb (RW_rp c hq) htd ht
  · rw [if_pos (ni_le h5 (by omega) (by omega))] at h2
    rw [rp_com (RW_rp c0 hq) ht]
    exact h2 _ (RW_Rel c0)
  · rw [if_neg (Nat.not_le.mpr (ni_lt h5 (by omega) (by omega)))] at h2
    exact h2 _ (RW_Rel c0)

theorem op_asked {G : mm_G} {d : Nat} {Q : Option Value → mm_M → Prop} {M : mm_M} {x y w0 s0 v0 bs L P T td N tp : Nat} {xs : Nat → Int32} {pa : Nat → Nat} {ar : Nat → pr_T} {ta la : Nat → Nat} {tl : Nat → List ps_L} {pp tk pq : Nat → Nat}  (c : RW_ M x y w0 s0 v0 bs L xs P T td N tp pa ar ta la tl pp tk pq) (p : Int32) (r : Int32) (hK : ∀ (rz : Int32) (M1 : mm_M), mid_ M1 y bs L xs → (∀ (d2 : Nat) (Q2 : Option Value → mm_M → Prop), (∀ M2 : mm_M, Rel_ x y w0 s0 v0 bs L xs M2 → Q2 (some (.int rz)) M2) → ma_ G jX12_asked (d2 + 1) 0 0 [.ref y, .int p, .int r] M1 Q2) → Q (some (.int rz)) M1) : ma_ G jX10_asked (d + 2) 0 0 [.ref x, .int p, .int r] M Q := by
  have c0 := RW_y0 c
  have hx := c.1.2.1
  have hm := RW_mid c
  have h7 := RW_T30 c
  have h8 := RW_P8 c
  have htd := RW_td c
  have hA : ∀ {q : Nat}, p = nI q → q < P → ¬ (p < 0 ∨ mm_I (mm_sI M y 0 0) y 26 ≤ p) := fun e hq => by rw [RW_26 c0]; exact ix_no e hq (by omega)
  have hB : ∀ {t : Nat}, r = nI t → t < T → ¬ (r < 0 ∨ mm_I (mm_sI M y 0 0) y 14 ≤ r) := fun e hq => by rw [RW_14 c0]; exact ix_no e hq (by omega)
  have hk : ∀ q t, q < P → t < T → (pa_ M (pa q) T (mm_I M x 10) t = -2 ↔ mm_I (mm_sI M y 0 0) (y + 22) (30 * q + t) = 1000000) := fun q t hq ht => by
    rw [RW_10 c, rp_pa (RW_rp c hq) htd ht, ((RW_rp c0 hq).2.2.2.2.2.2.2.1.2.2.2 t ht).2.2.1]
    rcases ak_le (f := (ar q).2.2.1) (l := (ar q).2.2.2.1) (T := T) (td := td) (t := t) (by omega) with h | h
    · rw [if_neg (by omega)]
      exact ⟨fun e => absurd e (nI_m2 (by omega)), fun e => absurd e (nI_mil (by omega))⟩
    · rw [h, if_pos rfl]
      exact ⟨fun _ => rfl, fun _ => rfl⟩
  refine k_X10_asked p r P T pa hx (RW_dP c) (fun h0 => hK _ _ hm (fun d2 Q2 h2 => k_X12_asked p r rfl c0.1.2.2.1 P T (RW_26 c0) h8 (RW_14 c0) h7 (fun _ => h2 _ (RW_Rel c0)) (fun _ => h2 _ (RW_Rel c0)) (fun q t e e2 hq ht _ => (h0.elim (ix_no e hq (by omega)) (ix_no e2 ht (by omega))).elim) (fun q t e e2 hq ht _ => (h0.elim (ix_no e hq (by omega)) (ix_no e2 ht (by omega))).elim))) (fun q t e hq e2 ht h3 => ?_) (fun q t e hq e2 ht h3 => ?_)
  · refine hK _ _ hm (fun d2 Q2 h2 => k_X12_asked p r rfl c0.1.2.2.1 P T (RW_26 c0) h8 (RW_14 c0) h7 (fun h0 => absurd h0 (hA e hq)) (fun h0 => absurd h0 (hB e2 ht)) (fun _ _ _ _ _ _ _ => h2 _ (RW_Rel c0)) (fun q3 t3 e3 e4 hq3 ht3 h5 => ?_))
    obtain rfl : q3 = q := ix_eq e e3 hq hq3 (by omega)
    obtain rfl : t3 = t := ix_eq e2 e4 ht ht3 (by omega)
    exact absurd ((hk q3 t3 hq ht).mpr h5) h3
  · refine hK _ _ hm (fun d2 Q2 h2 => k_X12_asked p r rfl c0.1.2.2.1 P T (RW_26 c0) h8 (RW_14 c0) h7 (fun h0 => absurd h0 (hA e hq)) (fun h0 => absurd h0 (hB e2 ht)) (fun q3 t3 e3 e4 hq3 ht3 h5 => ?_) (fun _ _ _ _ _ _ _ => h2 _ (RW_Rel c0)))
    obtain rfl : q3 = q := ix_eq e e3 hq hq3 (by omega)
    obtain rfl : t3 = t := ix_eq e2 e4 ht ht3 (by omega)
    exact absurd ((hk q3 t3 hq ht).mp h3) h5
