/-! a tariff is told, or refused: both memories -/
theorem ak_told {f : Nat → Nat} {l : Nat → Bool} {T td dy t : Nat} (hd : 1 ≤ dy) (ht : t < T) : ak_ (fun v => if v = T then td + dy else f v) (fun v => if v = T then false else l v) (T + 1) td t = ak_ f l T td t := by
  have hl2 : ∀ v, v ≠ T → (fun v => if v = T then false else l v) v = l v := fun v hv => if_neg hv
  have hlT : (fun v => if v = T then false else l v) T = false := if_pos rfl
  have hf2 : ∀ v, v ≠ T → (fun v => if v = T then td + dy else f v) v = f v := fun v hv => if_neg hv
  have hfT : (fun v => if v = T then td + dy else f v) T = td + dy := if_pos rfl
  generalize (fun v => if v = T then false else l v) = l2 at *
  generalize (fun v => if v = T then td + dy else f v) = f2 at *
  obtain ⟨n1, n2, n3, n4⟩ := nxt_spec l ht
  have e : nxt_ l2 (T + 1) t = nxt_ l T t := nxt_uq (by omega) n1 (by omega) (fun q => by
    by_cases h : nxt_ l T t = T
    · rw [h]; exact hlT
    · rw [hl2 _ h]; exact n3 (by omega)) (fun w h1 h2 => by rw [hl2 _ (by omega)]; exact n4 w h1 h2)
  by_cases h : nxt_ l T t = T
  · rw [ak_neg (l := l) (fun q => by omega), ak_neg (fun q => ?_)]
    rw [e, h, hfT] at q
    omega
  · unfold ak_
    rw [e, hl2 t (by omega), hf2 _ h]
    by_cases hq : l t = true ∧ f (nxt_ l T t) ≤ td
    · rw [if_pos ⟨hq.1, by omega, hq.2⟩, if_pos ⟨hq.1, by omega, hq.2⟩]
    · rw [if_neg (fun z => hq ⟨z.1, z.2.2⟩), if_neg (fun z => hq ⟨z.1, z.2.2⟩)]
theorem rT_fr2 {W : Nat → Nat → Prop} {V : Nat → Prop} {M M' : mm_M} {x y T : Nat} {ta la : Nat → Nat} {tl : Nat → List ps_L} (h : fr_ W V M M') (hx : dsk_ M x) (hy : mdl_ M y) (hW : wok_ M x y W) (hV : vok_ x y V) (v1 : ∀ t, t < T → mm_R M' (x + 2) t = mm_R M (x + 2) t) (e3 : ∀ k t, 3 ≤ k → k ≤ 4 → t < T → ¬ W (y + k) t) (e5 : ∀ k j, 5 ≤ k → k ≤ 7 → j < 12 * T → ¬ W (y + k) j) (e8 : ∀ k j, 8 ≤ k → k ≤ 13 → j < 48 * T → ¬ W (y + k) j) (c : rT_ M x y T ta la tl) : (∀ t, t < T → mm_R M' (x + 2) t = some (ta t) ∧ mm_sh M' (ta t) = some (.inl 6) ∧ mm_R M' (ta t) 1 = some (la t) ∧ mm_sh M' (la t) = some (.inr (4, 12)) ∧ lsl_ M' (la t) (tl t)) ∧ rTL_ M' y T tl ∧ ∀ t, t < T → mm_I M' (y + 3) t = mm_I M' (ta t) 0 := by
  obtain ⟨c1, c2, c3, c4, c5⟩ := c
  refine ⟨fun t ht => ?_, fun t ht => rTL_fr h hy (e3 4 t (by decide) (by decide) ht) (fun k j h1 h2 _ h4 => e5 k j h1 h2 (by omega)) (fun k j h1 h2 _ h4 => e8 k j h1 h2 (by omega)) (c3 t ht), fun t ht => ?_⟩
  · obtain ⟨d1, d2, d3, d4, d5⟩ := c1.2.2 t ht
    refine ⟨by rw [v1 t ht]; exact d1, (h _ _ d2).1, ?_, (h _ _ d4).1, lsl_fr h hx hy hW hV d4 d5⟩
    rw [(h _ _ d2).2.2 (fun q => by cases vok_sh hx hy hV q d2)]; exact d3
  · obtain ⟨d1, d2, -⟩ := c1.2.2 t ht
    rw [fr_y h hy (by decide) (e3 3 t (by decide) (by decide) ht), (h _ _ d2).2.1 0 (fun q => by cases wok_sh hx hy hW q d2)]
    exact c5 t ht
def wt_ (x y T a j : Nat) : Prop := wk_ x y a j ∨ a = x + 4 ∨ (a = y ∧ j = 6) ∨ xr_ y T a j
theorem ou_wt {x y T a j : Nat} (h : ou_ x y a) : ¬ wt_ x y T a j := fun q => h (by unfold wt_ wk_ xr_ at q; unfold rg_ok_; omega)
theorem fr_tr0 {M' M1 : mm_M} {x y T n : Nat} (hp : pfx_ (xr_ y T) (md_tr0 (mm_sI M' y 0 0) y n) M1 y) : fr_ (wt_ x y T) (vk_ x y) M' M1 := fr_pf hp.1 hp.2.1 (fun a j hz => by
  rw [hp.2.2.1 a j (fun q => hz (Or.inr (Or.inr (Or.inr q)))), md_tr0_o (by unfold wt_ wk_ at hz; omega), mm_I_sI, if_neg (by unfold wt_ wk_ at hz; omega)])
theorem tr0_I {M' M1 : mm_M} {y T n a j : Nat} (hp : pfx_ (xr_ y T) (md_tr0 (mm_sI M' y 0 0) y n) M1 y) (h1 : ¬ xr_ y T a j) (h2 : ¬ (a = y ∧ (j = 0 ∨ j = 3 ∨ j = 6 ∨ j = 7 ∨ j = 8))) : mm_I M1 a j = mm_I M' a j := by
  rw [hp.2.2.1 a j h1, md_tr0_o (by omega), mm_I_sI, if_neg (by omega)]
theorem tr0_6 {M' M1 : mm_M} {y T n : Nat} (hp : pfx_ (xr_ y T) (md_tr0 (mm_sI M' y 0 0) y n) M1 y) : mm_I M1 y 6 = 0 ∧ mm_I M1 y 3 = 0 := by
  constructor
  · rw [hp.2.2.1 y 6 (by unfold xr_; omega)]; unfold md_tr0; simp [mm_I_sI]
  · rw [hp.2.2.1 y 3 (by unfold xr_; omega)]; unfold md_tr0; simp [mm_I_sI]
theorem tr0_R {M' M1 : mm_M} {y T n : Nat} (hp : pfx_ (xr_ y T) (md_tr0 (mm_sI M' y 0 0) y n) M1 y) (a : Nat) : mm_R M1 a = mm_R M' a := by
  show M1.2.2.2.1 a = M'.2.2.2.1 a
  rw [hp.2.1]
  rfl
theorem RW_tf {M M' M1 M2 : mm_M} {x y w0 s0 v0 bs L P T td N tp : Nat} {xs : Nat → Int32} {pa : Nat → Nat} {ar : Nat → pr_T} {ta la : Nat → Nat} {tl : Nat → List ps_L} {pp tk pq : Nat → Nat} (c : RW_ M x y w0 s0 v0 bs L xs P T td N tp pa ar ta la tl pp tk pq) {n : Nat} {tr fa : Int32} (hF : taf_F M M' x tr fa) (hp : pfx_ (xr_ y T) (md_tr0 (mm_sI M' y 0 0) y n) M1 y) (hk : md_sk M1 M2) (h2 : ∀ a j, ¬ (a = y ∧ (j = 1 ∨ j = 2 ∨ j = 3)) → mm_I M2 a j = mm_I M1 a j) (hX : rX_ M2 x y) : RW_ M2 x y w0 s0 v0 bs L xs P T td N 0 pa ar ta la tl pp tk pq := by
  have h7 := RW_T30 c
  have h8 := RW_P8 c
  have hx := c.1.2.1
  have hy := c.1.2.2.1
  have hxy := c.1.1
  obtain ⟨f1, f2, f3, f4, f5⟩ := hF
  have hA : fr_ (wt_ x y T) (vk_ x y) M M' := fr_mono (fr_nwx (E := fun j => j = 11 ∨ j = 12) f1 (fun j hj => f4 j (by omega) (by omega))) (fun a j z => by unfold wt_ wk_; unfold xt10_ at z; omega) (fun _ z => z.elim)
  have h : fr_ (wt_ x y T) (vk_ x y) M M2 := fr_tr hA (fr_tr (fr_tr0 hp) (fr_sk hk (fun a j hz => h2 a j (by unfold wt_ wk_ at hz; omega))))
  have hWok : wok_ M x y (wt_ x y T) := fun a j z => Or.inl (by unfold wt_ wk_ xr_ at z; unfold rg_ok_; omega)
  have hR : mm_R M2 (x + 11) 0 = some (x + 12) := by
    rw [md_sk_R hk, tr0_R hp, (f1 _ _ (dsk_s6 hx)).2.2.2 (fun z => z)]; exact hx.2.2.2.2.1
  obtain ⟨t1, t2, t3⟩ := rT_fr2 h hx hy hWok (vk_ok x y) (fun t _ => by rw [(h _ _ (dsk_s1 hx)).2.2 (by unfold vk_; omega)]) (fun k t h1 h2 h3 => by unfold wt_ wk_ xr_; omega) (fun k j h1 h2 h3 => by unfold wt_ wk_ xr_; omega) (fun k j h1 h2 h3 => by unfold wt_ wk_ xr_; omega) c.2.2.2.1
  refine ⟨rS_fr h hWok (vk_ok x y) hR c.1, hX, rP_fr h hx hy (vk_ok x y) (by unfold vk_; omega) (by unfold wt_ wk_ xr_; omega) (fun k j h1 h2 => by unfold wt_ wk_ xr_; omega) (fun q i j hq hi => ?_) c.2.2.1, ⟨⟨?_, h7, t1⟩, c.2.2.2.1.2.1, t2, ?_, t3⟩, rN_fr h hx hy hWok (vk_ok x y) (by unfold vk_; omega) (by unfold wt_ wk_ xr_; omega) (fun k j h1 h2 => by unfold wt_ wk_ xr_; omega) (fun i j hi => ou_wt ((RW_n1 c hi).1.1)) c.2.2.2.2.1, ⟨?_, ?_, Nat.zero_le _, fun k hk => absurd hk (Nat.not_lt_zero k)⟩⟩
  · have ho := (RW_rp c hq).2.2.1
    rcases (by omega : i = 0 ∨ i = 1 ∨ i = 2 ∨ i = 3) with rfl | rfl | rfl | rfl
    · exact ou_wt ho.1
    · exact ou_wt ho.2.1
    · exact ou_wt ho.2.2.1
    · exact ou_wt ho.2.2.2
  · rw [(h _ _ hx.1.1).2.1 8 (by unfold wt_ wk_ xr_; omega)]; exact (RW_dT c).1
  · rw [(h _ _ hy.1).2.1 14 (by unfold wt_ wk_ xr_; omega)]; exact RW_14 c
  · rw [h2 _ _ (by omega), tr0_I hp (by unfold xr_; omega) (by omega)]; exact f5
  · rw [h2 _ _ (by omega), (tr0_6 hp).1]; rfl
