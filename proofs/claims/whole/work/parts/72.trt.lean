/-! a tariff is told: both memories -/
def ar_t (T td : Nat) (r : pr_T) : pr_T := (r.1, r.2.1, (fun t => if t = T then td + r.1 else r.2.2.1 t), (fun t => if t = T then false else r.2.2.2.1 t), r.2.2.2.2)
theorem tel_I (M1 : mm_M) (y T P : Nat) (hT : T < 30) (a j : Nat) : mm_I (mm_sI (mm_sI (md_tel M1 y T P) y 1 0) y 2 (-1)) a j = if a = y ∧ j = 2 then -1 else if a = y ∧ j = 1 then 0 else if a = y ∧ j = 14 then nI (T + 1) else if j % 30 = T ∧ j / 30 < P ∧ a = y + 23 then 0 else if j % 30 = T ∧ j / 30 < P ∧ a = y + 22 then 1000000 else if j % 30 = T ∧ j / 30 < P ∧ a = y + 21 then 1000000 else if j % 30 = T ∧ j / 30 < P ∧ a = y + 20 then mm_I M1 y 27 + mm_I M1 (y + 14) (j / 30) else if a = y + 3 ∧ j = T then mm_I M1 y 27 else mm_I M1 a j := by
  unfold md_tel
  rw [mm_I_sI, mm_I_sI, mm_I_sI, md_sno_I _ _ _ hT, mm_I_sI]
theorem tel_sk (M1 : mm_M) (y T P : Nat) : md_sk M1 (mm_sI (mm_sI (md_tel M1 y T P) y 1 0) y 2 (-1)) := md_sk_sI (md_sk_sI (md_sk_sI (md_sk_tr (md_sk_sI (md_sk_rf M1) (y + 3) T (mm_I M1 y 27)) (md_sno_sk _ _ _ _ _)) y 14 (nI (T + 1))) y 1 0) y 2 (-1)
def w0_ (x y T a j : Nat) : Prop := wt_ x y T a j ∨ (a = x ∧ j = 8) ∨ (a = y ∧ j = 14) ∨ (a = y + 3 ∧ j = T) ∨ (y + 20 ≤ a ∧ a ≤ y + 23 ∧ j % 30 = T)
theorem w0_rg {x y T a j : Nat} (h : w0_ x y T a j) : rg_ok_ x y a := by unfold w0_ wt_ wk_ xr_ at h; unfold rg_ok_; omega
set_option maxHeartbeats 4000000 in
theorem RW_told {M M' M1 : mm_M} {x y w0 s0 v0 bs L P T td N tp : Nat} {xs : Nat → Int32} {pa : Nat → Nat} {ar : Nat → pr_T} {ta la : Nat → Nat} {tl : Nat → List ps_L} {pp tk pq : Nat → Nat} (c : RW_ M x y w0 s0 v0 bs L xs P T td N tp pa ar ta la tl pp tk pq) {n ta9 la9 : Nat} {ls : List ps_L} (hT : T < 30) (hF : tar_F M M' x P T pa ls ta9 la9) (hp : pfx_ (xr_ y T) (md_tr0 (mm_sI M' y 0 0) y n) M1 y) (hr : rr_all M1 y T ls) (hv : ls.length ≤ 12 ∧ ∀ q ∈ ls, vl_ q) : RW_ (mm_sI (mm_sI (md_tel M1 y T P) y 1 0) y 2 (-1)) x y w0 s0 v0 bs L xs P (T + 1) td N 0 pa (fun q => ar_t T td (ar q)) (fun t => if t = T then ta9 else ta t) (fun t => if t = T then la9 else la t) (fun t => if t = T then ls else tl t) pp tk pq := by
  have h7 := RW_T30 c
  have h8 := RW_P8 c
  have h9 := RW_N c
  have htd := RW_td c
  have hx := c.1.2.1
  have hy := c.1.2.2.1
  have hxy := c.1.1
  obtain ⟨F1, F2, F3, F4, F5, F6, F7, F8, F9, F10, F11, F12, F13, F14, F15, F16⟩ := hF
  have hI := tel_I M1 y T P hT
  have hk := tel_sk M1 y T P
  generalize (mm_sI (mm_sI (md_tel M1 y T P) y 1 0) y 2 (-1)) = M2 at *
  obtain ⟨Z, hZ⟩ : ∃ Z : Nat → Prop, Z = fun a => ∃ q, q < P ∧ (a = pa q ∨ a = pa q + 2) := ⟨_, rfl⟩
  obtain ⟨W, hW⟩ : ∃ W : Nat → Nat → Prop, W = fun a j => w0_ x y T a j ∨ Z a := ⟨_, rfl⟩
  obtain ⟨V, hV⟩ : ∃ V : Nat → Prop, V = fun a => vk_ x y a ∨ a = x + 2 := ⟨_, rfl⟩
  have Zsh : ∀ a, Z a → mm_sh M a = some (.inl 3) ∨ mm_sh M a = some (.inr (0, 30)) := fun a z => by
    subst hZ
    obtain ⟨q, hq, e | e⟩ := z
    · rw [e]; exact Or.inl (RW_rp c hq).2.1.1
    · rw [e]; exact Or.inr (RW_rp c hq).2.1.2.2.2.2.1
  have Zou : ∀ a, Z a → ou_ x y a := fun a z => by
    subst hZ
    obtain ⟨q, hq, e | e⟩ := z
    · rw [e]; exact (RW_rp c hq).2.2.1.1
    · rw [e]; exact (RW_rp c hq).2.2.1.2.2.1
  have nW : ∀ a j, rg_ok_ x y a → ¬ w0_ x y T a j → ¬ W a j := fun a j h1 h2 => by
    subst hW
    rintro (z | z)
    · exact h2 z
    · exact Zou a z h1
  have nWo : ∀ a j, ou_ x y a → ¬ Z a → ¬ W a j := fun a j h1 h2 => by
    subst hW
    rintro (z | z)
    · exact h1 (w0_rg z)
    · exact h2 z
  have hWok : wok_ M x y W := fun a j z => by
    subst hW
    rcases z with z | z
    · exact Or.inl (w0_rg z)
    · rcases Zsh a z with e | e
      · exact Or.inr (Or.inl e)
      · exact Or.inr (Or.inr (Or.inr (Or.inl e)))
  have hVok : vok_ x y V := fun a z => by
    subst hV
    rcases z with z | z
    · exact vk_ok x y a z
    · exact Or.inr (Or.inl z)
  have hA : fr_ W V M M' := fr_mono (fr_nwx (E := fun j => j = 8 ∨ j = 11 ∨ j = 12) F1 (fun j hj => F14 j (by omega) (by omega) (by omega))) (fun a j z => by
    subst hW
    rcases z with z | ⟨z1, z2 | z2⟩
    · exact Or.inl (by unfold w0_ wt_ wk_; omega)
    · exact Or.inl (by unfold w0_ wt_ wk_; unfold xt10_ at z2; omega)
    · exact Or.inr (by subst hZ; exact z2)) (fun a z => by subst hV; exact Or.inr z)
  have hB : fr_ (w0_ x y T) (vk_ x y) M' M1 := fr_mono (fr_tr0 hp) (fun a j z => Or.inl z) (fun _ z => z)
  have hC : fr_ (w0_ x y T) (vk_ x y) M1 M2 := fr_sk hk (fun a j hz => by
    unfold w0_ wt_ wk_ at hz
    rw [hI]
    (repeat (first | rw [if_neg (by omega)] | rw [if_pos (by omega)])))
  have hBC : fr_ (w0_ x y T) (vk_ x y) M' M2 := fr_tr hB hC
  have h : fr_ W V M M2 := fr_tr hA (fr_mono hBC (fun a j z => by subst hW; exact Or.inl z) (fun a z => by subst hV; exact Or.inl z))
  have hR2 : ∀ a, mm_R M2 a = mm_R M' a := fun a => by rw [md_sk_R hk, tr0_R hp]
  have h11 : mm_R M2 (x + 11) 0 = some (x + 12) := by
    rw [hR2, (F1 _ _ (dsk_s6 hx)).2.2.2 (by show ¬ x + 11 = x + 2; omega)]; exact hx.2.2.2.2.1
  have hx' : dsk_ M' x := fr_dsk hA (by subst hV; unfold vk_; omega) (by rw [(F1 _ _ (dsk_s6 hx)).2.2.2 (by show ¬ x + 11 = x + 2; omega)]; exact hx.2.2.2.2.1) hx
  have hy' : mdl_ M' y := fr_mdl hA (by subst hV; unfold vk_; omega) hy
  have hy1 : mdl_ M1 y := fr_mdl hB (by unfold vk_; omega) hy'
  have ey : ∀ k j, k ≤ 34 → ¬ w0_ x y T (y + k) j → mm_I M2 (y + k) j = mm_I M (y + k) j := fun k j h1 h2 => fr_y h hy h1 (nW _ _ (by unfold rg_ok_; omega) h2)
  have ey1 : ∀ k j, k ≤ 34 → ¬ w0_ x y T (y + k) j → mm_I M1 (y + k) j = mm_I M (y + k) j := fun k j h1 h2 => by
    rw [fr_y hB hy' h1 h2]
    exact fr_y hA hy h1 (nW _ _ (by unfold rg_ok_; omega) h2)
  have e27 : mm_I M1 y 27 = nI td := by
    rw [show mm_I M1 y 27 = mm_I M y 27 from ey1 0 27 (by decide) (by unfold w0_ wt_ wk_ xr_; omega)]; exact RW_27 c
  have hX : rX_ M2 x y := by
    refine rX_of (w := 0) (by rw [hI]; (repeat (first | rw [if_neg (by omega)] | rw [if_pos (by omega)]))) ?_ (by decide) (by rw [hI]; (repeat (first | rw [if_neg (by omega)] | rw [if_pos (by omega)]))) ?_
    · rw [hI]
      (repeat (first | rw [if_neg (by omega)] | rw [if_pos (by omega)]))
      rw [tr0_I hp (by unfold xr_; omega) (by omega)]; exact F12
    · rw [hI, hI]
      (repeat (first | rw [if_neg (by omega)] | rw [if_pos (by omega)]))
      rw [(tr0_6 hp).2, tr0_I hp (by unfold xr_; omega) (by omega), F13]
  have hP2 : rP_ M2 x y P (T + 1) td N pa (fun q => ar_t T td (ar q)) := by
    obtain ⟨p1, p2, p3, p4, p5, p6⟩ := c.2.2.1
    have gx : ∀ j, ¬ w0_ x y T x j → mm_I M2 x j = mm_I M x j := fun j hj => (h _ _ hx.1.1).2.1 j (nW _ _ (by unfold rg_ok_; omega) hj)
    have gy0 : ∀ j, ¬ w0_ x y T y j → mm_I M2 y j = mm_I M y j := fun j hj => (h _ _ hy.1).2.1 j (nW _ _ (by unfold rg_ok_; omega) hj)
    refine ⟨⟨p1.1, by omega, p1.2.2.1, p1.2.2.2⟩, ⟨by rw [gx 7 (by unfold w0_ wt_ wk_ xr_; omega)]; exact p2.1, by rw [gy0 26 (by unfold w0_ wt_ wk_ xr_; omega)]; exact p2.2.1, by rw [gx 10 (by unfold w0_ wt_ wk_ xr_; omega)]; exact p2.2.2.1, by rw [gy0 27 (by unfold w0_ wt_ wk_ xr_; omega)]; exact p2.2.2.2⟩, fun q hq => ?_, p4, fun q hq1 hq2 => ?_, fun q i => p6 q i⟩
    · obtain ⟨c1, c2, c3, c4, c5, c6, c7, c8, c9, c10⟩ := p3 q hq
      obtain ⟨G1, G2, G3, G4⟩ := F16 q hq
      obtain ⟨b1, b2, b3, b4⟩ := c8
      obtain ⟨d1, d2, d3, d4, d5⟩ := c10
      have o0 := c3.1
      have o1 := c3.2.1
      have o2 := c3.2.2.1
      have o3 := c3.2.2.2
      have s0 := (F1 _ _ c2.1).1
      have s1 := (F1 _ _ c2.2.2.1).1
      have s2 := (F1 _ _ c2.2.2.2.2.1).1
      have s3 := (F1 _ _ c2.2.2.2.2.2.2).1
      have f0 : ∀ j, mm_I M2 (pa q) j = mm_I M' (pa q) j := fun j => (hBC _ _ s0).2.1 j (fun z => o0 (w0_rg z))
      have f2 : ∀ j, mm_I M2 (pa q + 2) j = mm_I M' (pa q + 2) j := fun j => (hBC _ _ s2).2.1 j (fun z => o2 (w0_rg z))
      have f1 : ∀ j, mm_I M2 (pa q + 1) j = mm_I M (pa q + 1) j := fun j => (h _ _ c2.2.2.1).2.1 j (nWo _ _ o1 (fun z => by
        rcases Zsh _ z with e | e <;> cases c2.2.2.1.symm.trans e))
      have f3 : ∀ j, mm_I M2 (pa q + 3) j = mm_I M (pa q + 3) j := fun j => (h _ _ c2.2.2.2.2.2.2).2.1 j (nWo _ _ o3 (fun z => by
        rcases Zsh _ z with e | e <;> cases c2.2.2.2.2.2.2.symm.trans e))
      have e30 : (30 * q + T) / 30 = q := by omega
      have g14 : mm_I M1 (y + 14) q = nI (ar q).1 := by
        rw [ey1 14 q (by decide) (by unfold w0_ wt_ wk_ xr_; omega)]; exact b1
      have gk : ∀ k t, 20 ≤ k → k ≤ 23 → t < T → mm_I M2 (y + k) (30 * q + t) = mm_I M (y + k) (30 * q + t) := fun k t h1 h2 h3 => ey k _ (by omega) (by unfold w0_ wt_ wk_ xr_; omega)
      refine ⟨by rw [(h _ _ (dsk_s0 hx)).2.2 (by subst hV; unfold vk_; omega)]; exact c1, fr_prt h (fun z => o0 (by subst hV; unfold vk_ at z; unfold rg_ok_; omega)) c2, c3, ⟨by rw [f0, G2 0 (by decide)]; exact c4.1, by rw [f0, G2 1 (by decide)]; exact c4.2.1, by rw [f0]; exact G1⟩, ?_, fun t ht => ?_, fun t t1 t2 => ?_, ⟨?_, ?_, ?_, fun t ht => ?_⟩, fun i hi => ?_, d1, d2, d3, fun a b hab hb => ?_, fun a ha => ?_⟩
      · rw [f0, f0, G2 6 (by decide), G2 7 (by decide), ey 16 q (by decide) (by unfold w0_ wt_ wk_ xr_; omega), ey 17 q (by decide) (by unfold w0_ wt_ wk_ xr_; omega)]
        exact c5
      · show mm_I M2 (pa q + 2) t = nI (if t = T then td + (ar q).1 else (ar q).2.2.1 t) ∧ mm_I M2 (pa q + 3) t = mm_b (if t = T then false else (ar q).2.2.2.1 t)
        rw [f2, f3]
        by_cases htT : t = T
        · rw [if_pos htT, if_pos htT, htT, G3, c7 T (Nat.le_refl _) hT, RW_10 c, c4.1, nI_add]
          exact ⟨rfl, rfl⟩
        · rw [if_neg htT, if_neg htT, G4 t htT]
          exact c6 t (by omega)
      · rw [f3]; exact c7 t (by omega) t2
      · rw [ey 14 q (by decide) (by unfold w0_ wt_ wk_ xr_; omega)]; exact b1
      · rw [ey 15 q (by decide) (by unfold w0_ wt_ wk_ xr_; omega)]; exact b2
      · rw [ey 18 q (by decide) (by unfold w0_ wt_ wk_ xr_; omega)]; exact b3
      · show mm_I M2 (y + 20) (30 * q + t) = nI (if t = T then td + (ar q).1 else (ar q).2.2.1 t) ∧ mm_I M2 (y + 23) (30 * q + t) = mm_b (if t = T then false else (ar q).2.2.2.1 t) ∧ mm_I M2 (y + 22) (30 * q + t) = nI (ak_ (fun v => if v = T then td + (ar q).1 else (ar q).2.2.1 v) (fun v => if v = T then false else (ar q).2.2.2.1 v) (T + 1) td t) ∧ mm_I M2 (y + 21) (30 * q + t) = nI (ag_ (fun v => if v = T then td + (ar q).1 else (ar q).2.2.1 v) (fun v => if v = T then false else (ar q).2.2.2.1 v) (ar q).1 (T + 1) td t)
        by_cases htT : t = T
        · subst htT
          have hak : ak_ (fun v => if v = t then td + (ar q).1 else (ar q).2.2.1 v) (fun v => if v = t then false else (ar q).2.2.2.1 v) (t + 1) td t = 1000000 := ak_neg (fun z => by
            have z1 := z.1
            rw [if_pos rfl] at z1
            cases z1)
          have hag : ag_ (fun v => if v = t then td + (ar q).1 else (ar q).2.2.1 v) (fun v => if v = t then false else (ar q).2.2.2.1 v) (ar q).1 (t + 1) td t = 1000000 := by
            unfold ag_; rw [if_pos hak]
          rw [hak, hag, if_pos rfl, if_pos rfl]
          refine ⟨?_, ?_, ?_, ?_⟩
          · rw [hI]
            (repeat (first | rw [if_neg (by omega)] | rw [if_pos (by omega)]))
            rw [e30, e27, g14, nI_add]
          · rw [hI]
            (repeat (first | rw [if_neg (by omega)] | rw [if_pos (by omega)]))
            rfl
          · rw [hI]
            (repeat (first | rw [if_neg (by omega)] | rw [if_pos (by omega)]))
            rfl
          · rw [hI]
            (repeat (first | rw [if_neg (by omega)] | rw [if_pos (by omega)]))
            rfl
        · have ht2 : t < T := by omega
          have hak := ak_told (f := (ar q).2.2.1) (l := (ar q).2.2.2.1) (td := td) d1 ht2
          have hag : ag_ (fun v => if v = T then td + (ar q).1 else (ar q).2.2.1 v) (fun v => if v = T then false else (ar q).2.2.2.1 v) (ar q).1 (T + 1) td t = ag_ (ar q).2.2.1 (ar q).2.2.2.1 (ar q).1 T td t := by
            unfold ag_; rw [hak]
          rw [hak, hag, if_neg htT, if_neg htT, gk 20 t (by decide) (by decide) ht2, gk 21 t (by decide) (by decide) ht2, gk 22 t (by decide) (by decide) ht2, gk 23 t (by decide) (by decide) ht2]
          exact b4 t ht2
      · rw [f1, ey 19 _ (by decide) (by unfold w0_ wt_ wk_ xr_; omega)]; exact c9 i hi
      · show (if a = T then td + (ar q).1 else (ar q).2.2.1 a) ≤ (if b = T then td + (ar q).1 else (ar q).2.2.1 b)
        by_cases hbT : b = T
        · rw [if_pos hbT]
          by_cases haT : a = T
          · rw [if_pos haT]; exact Nat.le_refl _
          · rw [if_neg haT]; exact d5 a (by omega)
        · rw [if_neg hbT, if_neg (by omega)]; exact d4 a b hab (by omega)
      · show (if a = T then td + (ar q).1 else (ar q).2.2.1 a) ≤ td + (ar q).1
        by_cases haT : a = T
        · rw [if_pos haT]; exact Nat.le_refl _
        · rw [if_neg haT]; exact d5 a (by omega)
    · obtain ⟨z1, z2, z3, z4⟩ := p5 q hq1 hq2
      exact ⟨by rw [ey 16 _ (by decide) (by unfold w0_ wt_ wk_ xr_; omega)]; exact z1, by rw [ey 17 _ (by decide) (by unfold w0_ wt_ wk_ xr_; omega)]; exact z2, by rw [ey 18 _ (by decide) (by unfold w0_ wt_ wk_ xr_; omega)]; exact z3, fun i hi => by rw [ey 19 _ (by decide) (by unfold w0_ wt_ wk_ xr_; omega)]; exact z4 i hi⟩
  obtain ⟨t1, t2, t3⟩ := rT_fr2 h hx hy hWok hVok (fun t ht => by rw [hR2, F3 t (by omega)]) (fun k t h1 h2 h3 => nW _ _ (by unfold rg_ok_; omega) (by unfold w0_ wt_ wk_ xr_; omega)) (fun k j h1 h2 h3 => nW _ _ (by unfold rg_ok_; omega) (by unfold w0_ wt_ wk_ xr_; omega)) (fun k j h1 h2 h3 => nW _ _ (by unfold rg_ok_; omega) (by unfold w0_ wt_ wk_ xr_; omega)) c.2.2.2.1
  have hT2 : rT_ M2 x y (T + 1) (fun t => if t = T then ta9 else ta t) (fun t => if t = T then la9 else la t) (fun t => if t = T then ls else tl t) := by
    have w0ok : wok_ M' x y (w0_ x y T) := fun a j z => Or.inl (w0_rg z)
    refine ⟨⟨?_, by omega, fun t ht => ?_⟩, fun t ht => ?_, fun t ht => ?_, ?_, fun t ht => ?_⟩
    · rw [hI]
      (repeat (first | rw [if_neg (by omega)] | rw [if_pos (by omega)]))
      rw [tr0_I hp (by unfold xr_; omega) (by omega)]; exact F11
    · show mm_R M2 (x + 2) t = some (if t = T then ta9 else ta t) ∧ mm_sh M2 (if t = T then ta9 else ta t) = some (.inl 6) ∧ mm_R M2 (if t = T then ta9 else ta t) 1 = some (if t = T then la9 else la t) ∧ mm_sh M2 (if t = T then la9 else la t) = some (.inr (4, 12)) ∧ lsl_ M2 (if t = T then la9 else la t) (if t = T then ls else tl t)
      by_cases htT : t = T
      · rw [if_pos htT, if_pos htT, if_pos htT, htT]
        exact ⟨by rw [hR2]; exact F2, (hBC _ _ F6).1, by rw [hR2]; exact F7, (hBC _ _ F9).1, lsl_fr hBC hx' hy' w0ok (vk_ok x y) F9 F10⟩
      · rw [if_neg htT, if_neg htT, if_neg htT]
        exact t1 t (by omega)
    · show (if t = T then ls else tl t).length ≤ 12 ∧ ∀ q ∈ (if t = T then ls else tl t), vl_ q
      by_cases htT : t = T
      · rw [if_pos htT]; exact hv
      · rw [if_neg htT]; exact c.2.2.2.1.2.1 t (by omega)
    · show rr_all M2 y t (if t = T then ls else tl t)
      by_cases htT : t = T
      · rw [if_pos htT, htT]
        have hC2 : fr_ (fun a j => a = y ∨ a = y + 3 ∨ (y + 20 ≤ a ∧ a ≤ y + 23)) (fun _ => False) M1 M2 := fr_sk hk (fun a j hz => by
          rw [hI]
          (repeat (first | rw [if_neg (by omega)] | rw [if_pos (by omega)])))
        exact rTL_fr hC2 hy1 (by omega) (fun k j h1 h2 _ _ => by omega) (fun k j h1 h2 _ _ => by omega) hr
      · rw [if_neg htT]; exact t2 t (by omega)
    · rw [hI]
      (repeat (first | rw [if_neg (by omega)] | rw [if_pos (by omega)]))
    · show mm_I M2 (y + 3) t = mm_I M2 (if t = T then ta9 else ta t) 0
      by_cases htT : t = T
      · rw [if_pos htT, htT]
        have o9 : ou_ x y ta9 := ou_fresh hx hy F4
        rw [(hBC _ _ F6).2.1 0 (fun z => o9 (w0_rg z)), F8, RW_10 c, hI]
        (repeat (first | rw [if_neg (by omega)] | rw [if_pos (by omega)]))
        exact e27
      · rw [if_neg htT]; exact t3 t (by omega)
  have hN2 : rN_ M2 x y P td N pa pp tk pq := rN_fr h hx hy hWok hVok (by subst hV; unfold vk_; omega) ⟨nW _ _ (by unfold rg_ok_; omega) (by unfold w0_ wt_ wk_ xr_; omega), nW _ _ (by unfold rg_ok_; omega) (by unfold w0_ wt_ wk_ xr_; omega)⟩ (fun k j h1 h2 => nW _ _ (by unfold rg_ok_; omega) (by unfold w0_ wt_ wk_ xr_; omega)) (fun i j hi => nWo _ _ ((RW_n1 c hi).1.1) (fun z => by
    have ht := ((RW_dN c).2.2 i hi).2.2.2
    rcases Zsh _ z with e | e <;> cases ht.symm.trans e)) c.2.2.2.2.1
  refine ⟨rS_fr h hWok hVok h11 c.1, hX, hP2, hT2, hN2, ⟨?_, ?_, Nat.zero_le _, fun k hk => absurd hk (Nat.not_lt_zero k)⟩⟩
  · rw [hI]
    (repeat (first | rw [if_neg (by omega)] | rw [if_pos (by omega)]))
    rw [tr0_I hp (by unfold xr_; omega) (by omega)]; exact F15
  · rw [hI]
    (repeat (first | rw [if_neg (by omega)] | rw [if_pos (by omega)]))
    rw [(tr0_6 hp).1]; rfl
