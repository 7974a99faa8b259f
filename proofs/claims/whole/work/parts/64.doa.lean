/-! the calls that do: what they share -/
def RV_ (M : mm_M) (x y w0 s0 v0 bs L : Nat) (xs : Nat → Int32) (P T td N tp : Nat) (pa : Nat → Nat) (ar : Nat → pr_T) (ta la : Nat → Nat) (tl : Nat → List ps_L) (pp tk pq : Nat → Nat) : Prop := rS_ M x y w0 s0 v0 bs L xs ∧ rP_ M x y P T td N pa ar ∧ rT_ M x y T ta la tl ∧ rN_ M x y P td N pa pp tk pq ∧ rB_ M x y tp
section RVS
variable {M M' : mm_M} {x y w0 s0 v0 bs L P T td N tp : Nat} {xs : Nat → Int32} {pa : Nat → Nat} {ar : Nat → pr_T} {ta la : Nat → Nat} {tl : Nat → List ps_L} {pp tk pq : Nat → Nat}
theorem RW_V (c : RW_ M x y w0 s0 v0 bs L xs P T td N tp pa ar ta la tl pp tk pq) : RV_ M x y w0 s0 v0 bs L xs P T td N tp pa ar ta la tl pp tk pq := ⟨c.1, c.2.2⟩
theorem RV_W (c : RV_ M x y w0 s0 v0 bs L xs P T td N tp pa ar ta la tl pp tk pq) (h : rX_ M x y) : RW_ M x y w0 s0 v0 bs L xs P T td N tp pa ar ta la tl pp tk pq := ⟨c.1, h, c.2⟩
theorem RV_fr (R : RV_ M x y w0 s0 v0 bs L xs P T td N tp pa ar ta la tl pp tk pq) (h : fr_ (wk_ x y) (vk_ x y) M M') (h11 : mm_R M' (x + 11) 0 = some (x + 12)) : RV_ M' x y w0 s0 v0 bs L xs P T td N tp pa ar ta la tl pp tk pq := by
  obtain ⟨rS, rP, rT, rN, rB⟩ := R
  have hxy := rS.1
  have hx := rS.2.1
  have hy := rS.2.2.1
  refine ⟨rS_fr h (wk_ok M x y) (vk_ok x y) h11 rS, rP_fr h hx hy (vk_ok x y) (by unfold vk_; omega) (by unfold wk_; omega) (fun k j h1 h2 => by unfold wk_; omega) (fun q i j hq hi => ?_) rP, rT_fr h hx hy (wk_ok M x y) (vk_ok x y) (by unfold vk_; omega) (by unfold wk_; omega) (fun k j h1 h2 => by unfold wk_; omega) rT, rN_fr h hx hy (wk_ok M x y) (vk_ok x y) (by unfold vk_; omega) (by unfold wk_; omega) (fun k j h1 h2 => by unfold wk_; omega) (fun i j hi => ou_wk ((rN.2.2 i hi).1.1)) rN, rB_fr h hx hy (by unfold wk_; omega) (fun j => by unfold wk_; omega) rB⟩
  have ho := (rP.2.2.1 q hq).2.2.1
  rcases (by omega : i = 0 ∨ i = 1 ∨ i = 2 ∨ i = 3) with rfl | rfl | rfl | rfl
  · exact ou_wk ho.1
  · exact ou_wk ho.2.1
  · exact ou_wk ho.2.2.1
  · exact ou_wk ho.2.2.2
/-- the reference ends with trouble w, and so has the other -/
theorem RW_done {w : Int32} (v : RV_ M x y w0 s0 v0 bs L xs P T td N tp pa ar ta la tl pp tk pq) (h1 : mm_I M x 11 = w) (h3 : mm_I M y 3 = mm_I M x 12) (hw : ¬ w = 4) : RW_ (mm_sI (mm_sI M y 1 w) y 2 (-1)) x y w0 s0 v0 bs L xs P T td N tp pa ar ta la tl pp tk pq := by
  have hxy := v.1.1
  refine RV_W (RV_fr v (fr_I (fr_I (fr_rf _ _ M) (by unfold wk_; omega)) (by unfold wk_; omega)) v.1.2.1.2.2.2.2.1) ?_
  unfold rX_
  rw [mI_na _ _ x _ _ _ (by omega), mI_na _ _ x _ _ _ (by omega), mI_na _ _ x _ _ _ (by omega), mI_na _ _ x _ _ _ (by omega), h1, if_neg hw]
  refine ⟨?_, ?_, ?_⟩
  · rw [mI_ne _ _ _ _ _ (by decide), mI_eq]
  · rw [mI_ne _ _ _ _ _ (by decide), mI_ne _ _ _ _ _ (by decide)]; exact h3
  · exact mI_eq _ _ _ _
theorem RV_rfs (w : Int32) (c : RW_ M x y w0 s0 v0 bs L xs P T td N tp pa ar ta la tl pp tk pq) : RV_ (mm_sI (mm_sI M x 11 w) y 0 0) x y w0 s0 v0 bs L xs P T td N tp pa ar ta la tl pp tk pq := by
  have hxy := c.1.1
  exact RV_fr (RW_V c) (fr_I (fr_I (fr_rf _ _ M) (by unfold wk_; omega)) (by unfold wk_; omega)) c.1.2.1.2.2.2.2.1
theorem RW_rfs {w : Int32} (c : RW_ M x y w0 s0 v0 bs L xs P T td N tp pa ar ta la tl pp tk pq) (hw : ¬ w = 4) : RW_ (mm_sI (mm_sI (mm_sI (mm_sI M x 11 w) y 0 0) y 1 w) y 2 (-1)) x y w0 s0 v0 bs L xs P T td N tp pa ar ta la tl pp tk pq := by
  have hxy := c.1.1
  refine RW_done (RV_rfs w c) ?_ ?_ hw
  · rw [mI_na _ _ _ _ _ _ (by omega), mI_eq]
  · rw [mI_ne _ _ _ _ _ (by decide), mI_na _ _ y _ _ _ (by omega), mI_na _ _ x _ _ _ (by omega), mI_ne _ _ _ _ _ (by decide)]
    exact c.2.1.2.1
theorem mid_rfs (w : Int32) (c : RW_ M x y w0 s0 v0 bs L xs P T td N tp pa ar ta la tl pp tk pq) : mid_ (mm_sI M x 11 w) y bs L xs := by
  exact mid_fr (W := wk_ x y) (V := fun _ => False) c (fr_I (fr_rf _ _ M) (by unfold wk_; omega)) (wk_ok M x y)
theorem RV_26 (c : RV_ M x y w0 s0 v0 bs L xs P T td N tp pa ar ta la tl pp tk pq) : mm_I M y 26 = nI P := c.2.1.2.1.2.1
theorem RV_27 (c : RV_ M x y w0 s0 v0 bs L xs P T td N tp pa ar ta la tl pp tk pq) : mm_I M y 27 = nI td := c.2.1.2.1.2.2.2
theorem RV_14 (c : RV_ M x y w0 s0 v0 bs L xs P T td N tp pa ar ta la tl pp tk pq) : mm_I M y 14 = nI T := c.2.2.1.2.2.2.1
theorem RV_38 (c : RV_ M x y w0 s0 v0 bs L xs P T td N tp pa ar ta la tl pp tk pq) : mm_I M y 38 = nI N := c.2.2.2.1.2.1
theorem RV_rp (c : RV_ M x y w0 s0 v0 bs L xs P T td N tp pa ar ta la tl pp tk pq) {q : Nat} (hq : q < P) : rp1_ M x y T td N q (pa q) (ar q) := c.2.1.2.2.1 q hq
theorem RV_TF (c : RV_ M x y w0 s0 v0 bs L xs P T td N tp pa ar ta la tl pp tk pq) : ∀ t, t < T → md_TF M y t ((tl t).length) (tn_ tl) (tm_ tl) := fun t ht => rTL_F c.2.2.1.2.2.1 c.2.2.1.2.1 ht
end RVS
section RPM
variable {W : Nat → Nat → Prop} {V : Nat → Prop} {M M' : mm_M} {x y P T td N N' q : Nat} {pa : Nat → Nat} {ar : Nat → pr_T} {r' : pr_T}
theorem rp1_fr2 {p : Nat} {r : pr_T} (h : fr_ W V M M') (hx : dsk_ M x) (hy : mdl_ M y) (hV : vok_ x y V) (v1 : mm_R M' (x + 1) q = mm_R M (x + 1) q) (e1 : ∀ k, 14 ≤ k → k ≤ 18 → ¬ W (y + k) q) (e3 : ∀ i, i < 5 → ¬ W (y + 19) (5 * q + i)) (e4 : ∀ k t, 20 ≤ k → k ≤ 23 → t < T → ¬ W (y + k) (30 * q + t)) (e2 : ∀ i j, i ≤ 3 → ¬ W (p + i) j) (hN : N ≤ N') (c : rp1_ M x y T td N q p r) : rp1_ M' x y T td N' q p r := by
  obtain ⟨c1, c2, c3, c4, c5, c6, c7, c8, c9, c10⟩ := c
  have hVp : ¬ V p := fun z => by
    have := c3.1
    rcases hV _ z with e | e | e | e | e <;> (subst e; exact this (by unfold rg_ok_; omega))
  have f0 : ∀ j, mm_I M' p j = mm_I M p j := fun j => (h _ _ c2.1).2.1 j (e2 0 j (by decide))
  have f1 : ∀ j, mm_I M' (p + 1) j = mm_I M (p + 1) j := fun j => (h _ _ c2.2.2.1).2.1 j (e2 1 j (by decide))
  have f2 : ∀ j, mm_I M' (p + 2) j = mm_I M (p + 2) j := fun j => (h _ _ c2.2.2.2.2.1).2.1 j (e2 2 j (by decide))
  have f3 : ∀ j, mm_I M' (p + 3) j = mm_I M (p + 3) j := fun j => (h _ _ c2.2.2.2.2.2.2).2.1 j (e2 3 j (by decide))
  have g : ∀ k, 14 ≤ k → k ≤ 18 → mm_I M' (y + k) q = mm_I M (y + k) q := fun k h1 h2 => fr_y h hy (by omega) (e1 k h1 h2)
  have g4 : ∀ k t, 20 ≤ k → k ≤ 23 → t < T → mm_I M' (y + k) (30 * q + t) = mm_I M (y + k) (30 * q + t) := fun k t h1 h2 h3 => fr_y h hy (by omega) (e4 k t h1 h2 h3)
  refine ⟨by rw [v1]; exact c1, fr_prt h hVp c2, c3, ?_, ?_, fun t ht => ?_, fun t h1 h2 => ?_, ?_, fun i hi => ?_, c10⟩
  · rw [f0, f0, f0]; exact c4
  · rw [f0, f0, g 16 (by decide) (by decide), g 17 (by decide) (by decide)]; exact ⟨c5.1, c5.2.1, nb_w c5.2.2 (Nat.le_refl _) hN⟩
  · rw [f2, f3]; exact c6 t ht
  · rw [f3]; exact c7 t h1 h2
  · obtain ⟨b1, b2, b3, b4⟩ := c8
    refine ⟨by rw [g 14 (by decide) (by decide)]; exact b1, by rw [g 15 (by decide) (by decide)]; exact b2, by rw [g 18 (by decide) (by decide)]; exact b3, fun t ht => ?_⟩
    rw [g4 20 t (by decide) (by decide) ht, g4 21 t (by decide) (by decide) ht, g4 22 t (by decide) (by decide) ht, g4 23 t (by decide) (by decide) ht]
    exact b4 t ht
  · rw [f1, fr_y h hy (by decide) (e3 i hi)]; exact c9 i hi
theorem pa_sep (c : rP_ M x y P T td N pa ar) {r i j : Nat} (hq : q < P) (hr : r < P) (hne : r ≠ q) (hi : i ≤ 3) (hj : j ≤ 3) : pa r + i ≠ pa q + j := fun e => by
  obtain ⟨a1, -, a2, -, a3, -, a4⟩ := (c.2.2.1 r hr).2.1
  obtain ⟨b1, -, b2, -, b3, -, b4⟩ := (c.2.2.1 q hq).2.1
  have key : i = j := by
    rcases (by omega : i = 0 ∨ i = 1 ∨ i = 2 ∨ i = 3) with rfl | rfl | rfl | rfl <;> rcases (by omega : j = 0 ∨ j = 1 ∨ j = 2 ∨ j = 3) with rfl | rfl | rfl | rfl
    all_goals first | rfl | (exfalso; (try simp only [Nat.add_zero] at e); first | (rw [e] at a1; first | cases a1.symm.trans b2 | cases a1.symm.trans b3 | cases a1.symm.trans b4) | (rw [e] at a2; first | cases a2.symm.trans b1 | cases a2.symm.trans b3 | cases a2.symm.trans b4) | (rw [e] at a3; first | cases a3.symm.trans b1 | cases a3.symm.trans b2 | cases a3.symm.trans b4) | (rw [e] at a4; first | cases a4.symm.trans b1 | cases a4.symm.trans b2 | cases a4.symm.trans b3))
  subst key
  exact hne (c.2.2.2.1 r q hr hq (by omega))
theorem rP_mod (h : fr_ W V M M') (hx : dsk_ M x) (hy : mdl_ M y) (hV : vok_ x y V) (v1 : ¬ V (x + 1)) (w1 : ¬ W x 7 ∧ ¬ W x 10 ∧ ¬ W y 26 ∧ ¬ W y 27) (c : rP_ M x y P T td N pa ar) (hq : q < P) (hr : ∀ i, r'.2.2.2.2 i ≤ 10000) (hN : N ≤ N') (hN2 : N' ≤ 200) (hnew : rp1_ M' x y T td N' q (pa q) r') (e2 : ∀ r i j, r < P → r ≠ q → i ≤ 3 → ¬ W (pa r + i) j) (e1 : ∀ r k, r ≠ q → 14 ≤ k → k ≤ 18 → ¬ W (y + k) r) (e3 : ∀ r i, r ≠ q → i < 5 → ¬ W (y + 19) (5 * r + i)) (e4 : ∀ r k t, r ≠ q → 20 ≤ k → k ≤ 23 → t < 30 → ¬ W (y + k) (30 * r + t)) : rP_ M' x y P T td N' pa (fun r => if r = q then r' else ar r) := by
  obtain ⟨c1, c2, c3, c4, c5, c6⟩ := c
  refine ⟨⟨c1.1, c1.2.1, c1.2.2.1, hN2⟩, ?_, fun r hr2 => ?_, c4, fun r h1 h2 => ?_, fun r i => ?_⟩
  · rw [(h _ _ hx.1.1).2.1 7 w1.1, (h _ _ hx.1.1).2.1 10 w1.2.1, (h _ _ hy.1).2.1 26 w1.2.2.1, (h _ _ hy.1).2.1 27 w1.2.2.2]
    exact c2
  · by_cases hrq : r = q
    · subst hrq
      show rp1_ M' x y T td N' r (pa r) (if r = r then r' else ar r)
      rw [if_pos rfl]; exact hnew
    · show rp1_ M' x y T td N' r (pa r) (if r = q then r' else ar r)
      rw [if_neg hrq]
      have hT := c1.2.1
      exact rp1_fr2 h hx hy hV (by rw [(h _ _ (dsk_s0 hx)).2.2 v1]) (fun k h1 h2 => e1 r k hrq h1 h2) (fun i hi => e3 r i hrq hi) (fun k t h1 h2 h3 => e4 r k t hrq h1 h2 (by omega)) (fun i j hi => e2 r i j hr2 hrq hi) hN (c3 r hr2)
  · have hrq : r ≠ q := by omega
    obtain ⟨z1, z2, z3, z4⟩ := c5 r h1 h2
    refine ⟨by rw [fr_y h hy (by decide) (e1 r 16 hrq (by decide) (by decide))]; exact z1, by rw [fr_y h hy (by decide) (e1 r 17 hrq (by decide) (by decide))]; exact z2, by rw [fr_y h hy (by decide) (e1 r 18 hrq (by decide) (by decide))]; exact z3, fun i hi => by rw [fr_y h hy (by decide) (e3 r i hrq hi)]; exact z4 i hi⟩
  · show (if r = q then r' else ar r).2.2.2.2 i ≤ 10000
    by_cases hrq : r = q
    · rw [if_pos hrq]; exact hr i
    · rw [if_neg hrq]; exact c6 r i
end RPM
/-! lost: what was asked for stays so -/
theorem nxt_uq {l : Nat → Bool} {T t v : Nat} (ht : t < T) (h1 : t < v) (h2 : v ≤ T) (h3 : v < T → l v = false) (h4 : ∀ u, t < u → u < v → l u = true) : nxt_ l T t = v := by
  obtain ⟨n1, n2, n3, n4⟩ := nxt_spec l ht
  rcases Nat.lt_trichotomy (nxt_ l T t) v with h | h | h
  · have := n3 (by omega)
    rw [h4 _ n1 h] at this
    cases this
  · exact h
  · have := h3 (by omega)
    rw [n4 _ h1 h] at this
    cases this
theorem ak_lost {f : Nat → Nat} {l : Nat → Bool} {T td t u : Nat} (hm : ∀ a b, a ≤ b → b < T → f a ≤ f b) (ht : t < T) (hl : l t = false) (hf : td < f t) (hu : u < T) : ak_ f (fun v => if v = t then true else l v) T td u = ak_ f l T td u := by
  have hl2 : ∀ v, v ≠ t → (fun v => if v = t then true else l v) v = l v := fun v hv => if_neg hv
  have hlt : (fun v => if v = t then true else l v) t = true := if_pos rfl
  generalize (fun v => if v = t then true else l v) = l2 at *
  obtain ⟨n1, n2, n3, n4⟩ := nxt_spec l hu
  obtain ⟨m1, m2, m3, m4⟩ := nxt_spec l2 hu
  rcases Nat.lt_trichotomy u t with h | h | h
  · have hv : nxt_ l T u ≤ t := Nat.not_lt.mp (fun q => by
      have := n4 t h q
      rw [hl] at this
      cases this)
    by_cases hvt : nxt_ l T u = t
    · rw [ak_neg (l := l) (fun q => by rw [hvt] at q; omega), ak_neg (fun q => ?_)]
      have : t ≤ nxt_ l2 T u := Nat.not_lt.mp (fun z => by
        have h5 := m3 (by omega)
        rw [hl2 _ (by omega), n4 _ m1 (by omega)] at h5
        cases h5)
      have := hm t (nxt_ l2 T u) this q.2.1
      omega
    · have e : nxt_ l2 T u = nxt_ l T u := nxt_uq hu n1 n2 (fun q => by rw [hl2 _ (by omega)]; exact n3 q) (fun w h1 h2 => by rw [hl2 _ (by omega)]; exact n4 w h1 h2)
      unfold ak_
      rw [e, hl2 u (by omega)]
  · subst h
    rw [ak_neg (l := l) (fun q => by rw [hl] at q; cases q.1), ak_neg (fun q => ?_)]
    have := hm u (nxt_ l2 T u) (by omega) q.2.1
    omega
  · have e : nxt_ l2 T u = nxt_ l T u := nxt_uq hu n1 n2 (fun q => by rw [hl2 _ (by omega)]; exact n3 q) (fun w h1 h2 => by rw [hl2 _ (by omega)]; exact n4 w h1 h2)
    unfold ak_
    rw [e, hl2 u (by omega)]
