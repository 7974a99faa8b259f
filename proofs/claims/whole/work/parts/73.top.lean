/-! tariff, both desks -/
theorem op_tariffB {G : mm_G} {d : Nat} {Q : Option Value → mm_M → Prop} {M : mm_M} {x y w0 s0 v0 bs L P T td N tp : Nat} {xs : Nat → Int32} {pa : Nat → Nat} {ar : Nat → pr_T} {ta la : Nat → Nat} {tl : Nat → List ps_L} {pp tk pq : Nat → Nat} (c : RW_ M x y w0 s0 v0 bs L xs P T td N tp pa ar ta la tl pp tk pq) (w : Int32) (hw : w < 0 ∨ nI tp < w) (hK : ∀ (rz : Int32) (M1 : mm_M), mid_ M1 y bs L xs → (∀ (d2 : Nat) (Q2 : Option Value → mm_M → Prop), (∀ M2 : mm_M, Rel_ x y w0 s0 v0 bs L xs M2 → Q2 (some (.int rz)) M2) → mt_ G (d2 + 1) 0 0 [.ref y, .int w] M1 Q2) → Q (some (.int rz)) M1) : ma_ G jX10_tariff (d + 1) 0 0 [.ref x, .int w] M Q := by
  have hx := c.1.2.1
  exact k_X10_tariffB w tp hx c.2.2.2.2.2.1 hw (hK _ _ (mid_rfs 2 c) (fun d2 Q2 h2 => k_X12_tariffB w rfl (RV_rfs 2 c).1.2.2.1 tp (RV_rfs 2 c).2.2.2.2.2.1 hw (h2 _ (RW_Rel (RW_rfs c (by decide))))))
theorem op_tariffO {G : mm_G} {d : Nat} {Q : Option Value → mm_M → Prop} {M : mm_M} {x y w0 s0 v0 bs L P T td N tp : Nat} {xs : Nat → Int32} {pa : Nat → Nat} {ar : Nat → pr_T} {ta la : Nat → Nat} {tl : Nat → List ps_L} {pp tk pq : Nat → Nat} {f9 : Nat} (hcs : G.2.2.2.1 3 = .int 1) (hsf : G.2.2.2.1 6 = va_rn f9) (c : RW_ M x y w0 s0 v0 bs L xs P T td N tp pa ar ta la tl pp tk pq) (n : Nat) (hn : n ≤ tp) (hK : ∀ (rz : Int32) (M1 : mm_M), mid_ M1 y bs L xs → (∀ (d2 : Nat) (Q2 : Option Value → mm_M → Prop), (∀ M2 : mm_M, Rel_ x y w0 s0 v0 bs L xs M2 → Q2 (some (.int rz)) M2) → mt_ G (d2 + 9) 0 0 [.ref y, .int (nI n)] M1 Q2) → Q (some (.int rz)) M1) : ma_ G jX10_tariff (d + 9) 171 547 [.ref x, .int (nI n)] M Q := by
  have h7 := RW_T30 c
  have h8 := RW_P8 c
  have hx := c.1.2.1
  have hy := c.1.2.2.1
  have hxy := c.1.1
  obtain ⟨b1, b2, b3, b4⟩ := c.2.2.2.2.2
  obtain ⟨b, hbd⟩ : ∃ b : Nat → Int32, b = fun k => if k < n then mm_I M (x + 5) k else -1 := ⟨_, rfl⟩
  have hb : tpb_ M (x + 4) tp n b := by
    subst hbd
    refine ⟨hx.2.1, b1, b3, hn, fun k hk => ⟨if_pos hk, ?_⟩, fun k hk => if_neg (by omega)⟩
    obtain ⟨-, c9, h1, h2⟩ := b4 k (by omega)
    exact ⟨c9, h1, (if_pos hk).trans h2⟩
  have hPw : dPw_ M x P pa := ⟨(RW_dP c).1, h8, fun q hq => ⟨(RW_rp c hq).1, (RW_rp c hq).2.1⟩⟩
  have pre : ∀ M' : mm_M, mdl_ M' y → (∀ j, mm_I M' y j = mm_I M y j) → (∀ j, mm_I M' (y + 2) j = mm_I M (y + 2) j) → mdl_ (mm_sI M' y 0 0) y ∧ mm_I (mm_sI M' y 0 0) y 6 = nI tp ∧ mm_I (mm_sI M' y 0 0) y 14 = nI T ∧ mm_I (mm_sI M' y 0 0) y 26 = nI P ∧ md_by (mm_sI M' y 0 0) y n = b := by
    intro M' h1 h2 h3
    refine ⟨h1, by rw [mI_ne _ _ _ _ _ (by decide), h2]; exact b2, by rw [mI_ne _ _ _ _ _ (by decide), h2]; exact RW_14 c, by rw [mI_ne _ _ _ _ _ (by decide), h2]; exact RW_26 c, ?_⟩
    subst hbd
    funext k
    unfold md_by
    by_cases hk : k < n
    · rw [if_pos hk]
      show _ = if k < n then mm_I M (x + 5) k else -1
      rw [if_pos hk, y0_ (by decide), h3, ← (b4 k (by omega)).1]
    · rw [if_neg hk]
      show _ = if k < n then mm_I M (x + 5) k else -1
      rw [if_neg hk]
  have taf : ∀ (M' : mm_M) (tr fa : Int32), taf_F M M' x tr fa → mid_ M' y bs L xs ∧ mdl_ M' y ∧ (∀ j, mm_I M' y j = mm_I M y j) ∧ ∀ j, mm_I M' (y + 2) j = mm_I M (y + 2) j := by
    intro M' tr fa hF
    refine ⟨mid_fr c (fr_nw hF.1) (fun a j z => Or.inl (by unfold xt10_ at z; unfold rg_ok_; omega)), fr_mdl (fr_nw hF.1) (fun z => z) hy, fun j => ?_, fun j => fr_y (fr_nw hF.1) hy (by decide) (by show ¬ xt10_ x (y + 2); unfold xt10_; omega)⟩
    rw [(hF.1 _ _ hy.1).2.1 (by unfold xt10_; omega)]
  refine k_X10_tariffO n P T pa f9 tp b hcs hsf hx hPw c.2.2.1.2.2.2.1 (fun q hq => ((RW_rp c hq).2.2.2.1).2.2) (RW_dT c).1 h7 hb (fun m K L9 V Pf q j M' hs hP0 hps hF hL => ?_) (fun m K L9 V Pf ls M' hs hP0 hps h30 hF => ?_) (fun m K L9 V Pf ls ta9 la9 M' hs hP0 hps h30 hF => ?_)
  · obtain ⟨g1, g2, g3, g4⟩ := taf M' _ _ hF
    obtain ⟨e1, e2, e3, e4, e5⟩ := pre M' g2 g3 g4
    refine hK _ _ g1 (fun d2 Q2 h2 => k_X12_tariffO f9 hcs hsf rfl e1 tp T P e2 b3 hn e3 h7 e4 h8 hs hP0 e5 (fun q2 j2 M1 hps2 hp => ?_) (fun ls2 M1 hps2 hp _ _ => ?_) (fun ls2 M1 hps2 hp _ _ => ?_))
    · cases hps.symm.trans hps2
      refine h2 _ (RW_Rel (RW_tf c hF hp ⟨rfl, rfl⟩ (fun a j hz => ?_) ⟨?_, ?_, ?_⟩))
      · rw [mm_I_sI, if_neg (by omega), mm_I_sI, if_neg (by omega), mm_I_sI, if_neg (by omega)]
      · rw [mI_ne _ _ _ _ _ (by decide), mI_eq, mI_na _ _ _ _ _ _ (by omega), mI_na _ _ _ _ _ _ (by omega), mI_na _ _ _ _ _ _ (by omega), tr0_I hp (by unfold xr_; omega) (by omega), hF.2.1]
      · rw [mI_ne _ _ _ _ _ (by decide), mI_ne _ _ _ _ _ (by decide), mI_eq, mI_na _ _ _ _ _ _ (by omega), mI_na _ _ _ _ _ _ (by omega), mI_na _ _ _ _ _ _ (by omega), tr0_I hp (by unfold xr_; omega) (by omega), hF.2.2.1]
      · rw [mI_eq, mI_na _ _ _ _ _ _ (by omega), mI_na _ _ _ _ _ _ (by omega), mI_na _ _ _ _ _ _ (by omega), mI_na _ _ _ _ _ _ (by omega), mI_na _ _ _ _ _ _ (by omega), mI_na _ _ _ _ _ _ (by omega), tr0_I hp (by unfold xr_; omega) (by omega), hF.2.1, if_pos rfl, tr0_I hp (by unfold xr_; omega) (by omega), hL]
    · cases hps.symm.trans hps2
    · cases hps.symm.trans hps2
  · obtain ⟨g1, g2, g3, g4⟩ := taf M' _ _ hF
    obtain ⟨e1, e2, e3, e4, e5⟩ := pre M' g2 g3 g4
    refine hK _ _ g1 (fun d2 Q2 h2 => k_X12_tariffO f9 hcs hsf rfl e1 tp T P e2 b3 hn e3 h7 e4 h8 hs hP0 e5 (fun q2 j2 M1 hps2 hp => ?_) (fun ls2 M1 hps2 hp _ _ => ?_) (fun ls2 M1 hps2 hp _ hT => by omega))
    · cases hps.symm.trans hps2
    · refine h2 _ (RW_Rel (RW_tf c hF hp ⟨rfl, rfl⟩ (fun a j hz => ?_) (rX_of (w := 3) ?_ ?_ (by decide) ?_ ?_)))
      · rw [mm_I_sI, if_neg (by omega), mm_I_sI, if_neg (by omega)]
      · rw [mI_ne _ _ _ _ _ (by decide), mI_eq]
      · rw [mI_na _ _ _ _ _ _ (by omega), mI_na _ _ _ _ _ _ (by omega), tr0_I hp (by unfold xr_; omega) (by omega), hF.2.1]
      · rw [mI_eq]
      · rw [mI_ne _ _ _ _ _ (by decide), mI_ne _ _ _ _ _ (by decide), (tr0_6 hp).2, mI_na _ _ _ _ _ _ (by omega), mI_na _ _ _ _ _ _ (by omega), tr0_I hp (by unfold xr_; omega) (by omega), hF.2.2.1]
  · have F1 := hF.1
    have nyp : ∀ q k, q < P → k ≤ 34 → ¬ (y + k = pa q ∨ y + k = pa q + 2) := fun q k hq hk => by
      have o := (RW_rp c hq).2.2.1
      have o0 := o.1
      have o2 := o.2.2.1
      unfold ou_ rg_ok_ at o0 o2
      omega
    have nx : ∀ k, k ≤ 34 → ¬ (xt10_ x (y + k) ∨ ∃ q, q < P ∧ (y + k = pa q ∨ y + k = pa q + 2)) := fun k hk => by
      rintro (z | ⟨q, hq, z⟩)
      · unfold xt10_ at z; omega
      · exact nyp q k hq hk z
    have g1 : mid_ M' y bs L xs := mid_fr c (fr_nw F1) (fun a j z => by
      rcases z with z | ⟨q, hq, z | z⟩
      · exact Or.inl (by unfold xt10_ at z; unfold rg_ok_; omega)
      · rw [z]; exact Or.inr (Or.inl (RW_rp c hq).2.1.1)
      · rw [z]; exact Or.inr (Or.inr (Or.inr (Or.inl (RW_rp c hq).2.1.2.2.2.2.1))))
    have g2 : mdl_ M' y := fr_mdl (fr_nw F1) (by show ¬ y = x + 2; omega) hy
    have g3 : ∀ j, mm_I M' y j = mm_I M y j := fun j => fr_y (fr_nw F1) hy (k := 0) (by decide) (nx 0 (by decide))
    have g4 : ∀ j, mm_I M' (y + 2) j = mm_I M (y + 2) j := fun j => fr_y (fr_nw F1) hy (by decide) (nx 2 (by decide))
    obtain ⟨e1, e2, e3, e4, e5⟩ := pre M' g2 g3 g4
    refine hK _ _ g1 (fun d2 Q2 h2 => k_X12_tariffO f9 hcs hsf rfl e1 tp T P e2 b3 hn e3 h7 e4 h8 hs hP0 e5 (fun q2 j2 M1 hps2 hp => ?_) (fun ls2 M1 hps2 hp _ hT => by omega) (fun ls2 M1 hps2 hp hrr hT => ?_))
    · cases hps.symm.trans hps2
    · cases hps.symm.trans hps2
      have hlv := ps_lines_v (sv_of hs) 13 0 0 ls (Nat.zero_le _) (Nat.zero_le _) hps
      exact h2 _ (RW_Rel (RW_told c h30 hF hp hrr ⟨by have := hlv.1; omega, hlv.2⟩))
