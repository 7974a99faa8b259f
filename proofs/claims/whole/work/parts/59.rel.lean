/-! both desks, side by side: frames -/
def fr_ (W : Nat → Nat → Prop) (V : Nat → Prop) (M M' : mm_M) : Prop := ∀ a s, mm_sh M a = some s → mm_sh M' a = some s ∧ (∀ j, ¬ W a j → mm_I M' a j = mm_I M a j) ∧ (¬ V a → mm_R M' a = mm_R M a)
theorem fr_rf (W : Nat → Nat → Prop) (V : Nat → Prop) (M : mm_M) : fr_ W V M M := fun _ _ h => ⟨h, fun _ _ => rfl, fun _ => rfl⟩
theorem fr_tr {W : Nat → Nat → Prop} {V : Nat → Prop} {A B C : mm_M} (h : fr_ W V A B) (g : fr_ W V B C) : fr_ W V A C := by
  intro a s ha
  obtain ⟨h1, h2, h3⟩ := h a s ha
  obtain ⟨g1, g2, g3⟩ := g a s h1
  exact ⟨g1, fun j hj => (g2 j hj).trans (h2 j hj), fun hv => (g3 hv).trans (h3 hv)⟩
theorem fr_mono {W W2 : Nat → Nat → Prop} {V V2 : Nat → Prop} {A B : mm_M} (h : fr_ W V A B) (hW : ∀ a j, W a j → W2 a j) (hV : ∀ a, V a → V2 a) : fr_ W2 V2 A B := fun a s ha =>
  ⟨(h a s ha).1, fun j hj => (h a s ha).2.1 j (fun q => hj (hW a j q)), fun hv => (h a s ha).2.2 (fun q => hv (hV a q))⟩
theorem fr_I {W : Nat → Nat → Prop} {V : Nat → Prop} {A B : mm_M} {a k : Nat} {v : Int32} (h : fr_ W V A B) (ha : W a k) : fr_ W V A (mm_sI B a k v) := by
  intro b s hb
  obtain ⟨h1, h2, h3⟩ := h b s hb
  refine ⟨h1, fun j hj => ?_, h3⟩
  rw [mm_I_sI, if_neg (fun z => hj (by rw [z.1, z.2]; exact ha))]
  exact h2 j hj
/-- ints alone have changed -/
theorem fr_sk {W : Nat → Nat → Prop} {V : Nat → Prop} {A B : mm_M} (h : md_sk A B) (hI : ∀ a j, ¬ W a j → mm_I B a j = mm_I A a j) : fr_ W V A B := by
  intro a s ha
  exact ⟨by rw [md_sk_sh h]; exact ha, fun j hj => hI a j hj, fun _ => md_sk_R h a⟩
/-- ints and longs alone have changed -/
theorem fr_pf {W : Nat → Nat → Prop} {V : Nat → Prop} {A B : mm_M} (h1 : B.1 = A.1) (h2 : B.2.2.2 = A.2.2.2) (hI : ∀ a j, ¬ W a j → mm_I B a j = mm_I A a j) : fr_ W V A B := by
  intro a s ha
  refine ⟨by rw [← ha]; exact congrFun h1 a, fun j hj => hI a j hj, fun _ => ?_⟩
  show B.2.2.2.1 a = A.2.2.2.1 a
  rw [h2]
theorem fr_nw {X Y : Nat → Prop} {A B : mm_M} (h : nw_ X Y A B) : fr_ (fun a _ => X a) Y A B := fun a s ha => ⟨(h a s ha).1, fun j hj => by rw [(h a s ha).2.1 hj], fun hv => (h a s ha).2.2.2 hv⟩
/-- of the cell x it is known which ints have changed -/
theorem fr_nwx {X Y : Nat → Prop} {A B : mm_M} {x : Nat} {E : Nat → Prop} (h : nw_ X Y A B) (hx : ∀ j, ¬ E j → mm_I B x j = mm_I A x j) : fr_ (fun a j => (a = x ∧ E j) ∨ (a ≠ x ∧ X a)) Y A B := fun a s ha =>
  ⟨(h a s ha).1, fun j hj => by
    by_cases hax : a = x
    · subst hax
      exact hx j (fun q => hj (Or.inl ⟨rfl, q⟩))
    · rw [(h a s ha).2.1 (fun q => hj (Or.inr ⟨hax, q⟩))], fun hv => (h a s ha).2.2.2 hv⟩
/-- longs aside, a frame as before -/
def lgo_ (M M' : mm_M) : mm_M := (M'.1, M'.2.1, M.2.2.1, M'.2.2.2)
theorem fr_2nw {W : Nat → Nat → Prop} {V : Nat → Prop} {A B : mm_M} (h : fr_ W V A B) : nw_ (fun a => ∃ j, W a j) V A (lgo_ A B) := by
  intro a s ha
  obtain ⟨h1, h2, h3⟩ := h a s ha
  exact ⟨h1, fun q => funext (fun j => h2 j (fun w => q ⟨j, w⟩)), rfl, h3⟩
theorem fr_dsk {W : Nat → Nat → Prop} {V : Nat → Prop} {A B : mm_M} {x : Nat} (h : fr_ W V A B) (hV : ¬ V x ∧ ¬ V (x + 4) ∧ ¬ V (x + 6) ∧ ¬ V (x + 10)) (h11 : mm_R B (x + 11) 0 = some (x + 12)) (c : dsk_ A x) : dsk_ B x := by
  obtain ⟨⟨d1, d2, d3, d4, d5, d6, d7, d8, d9, d10, d11, d12, d13, d14, d15⟩, ⟨t1, t2, t3⟩, ⟨k1, k2, k3, k4, k5, k6, k7⟩, r1, c1, c2⟩ := c
  have e0 := (h _ _ d1).2.2 hV.1
  have e4 := (h _ _ t1).2.2 hV.2.1
  have e6 := (h _ _ k1).2.2 hV.2.2.1
  have e10 := (h _ _ d13).2.2 hV.2.2.2
  refine ⟨⟨(h _ _ d1).1, ?_, (h _ _ d3).1, ?_, (h _ _ d5).1, ?_, (h _ _ d7).1, ?_, (h _ _ d9).1, ?_, (h _ _ d11).1, ?_, (h _ _ d13).1, ?_, (h _ _ d15).1⟩, ⟨(h _ _ t1).1, by rw [e4]; exact t2, (h _ _ t3).1⟩, ⟨(h _ _ k1).1, by rw [e6]; exact k2, (h _ _ k3).1, by rw [e6]; exact k4, (h _ _ k5).1, by rw [e6]; exact k6, (h _ _ k7).1⟩, by rw [e10]; exact r1, h11, (h _ _ c2).1⟩ <;> (rw [e0]; assumption)
theorem fr_mdl {W : Nat → Nat → Prop} {V : Nat → Prop} {A B : mm_M} {y : Nat} (h : fr_ W V A B) (hV : ¬ V y) (c : mdl_ A y) : mdl_ B y := by
  refine ⟨(h _ _ c.1).1, fun q hq => ?_⟩
  obtain ⟨c1, c2⟩ := c.2 q hq
  exact ⟨by rw [(h _ _ c.1).2.2 hV]; exact c1, (h _ _ c2).1⟩
theorem fr_prt {W : Nat → Nat → Prop} {V : Nat → Prop} {A B : mm_M} {p : Nat} (h : fr_ W V A B) (hV : ¬ V p) (c : prt_ A p) : prt_ B p := prt_nw (M' := lgo_ A B) (fr_2nw h) hV c
/-- what is written after it was made: neither tariffs nor papers nor tables -/
def wsh_ (s : mm_S) : Bool := match s with
  | .inl ci => ci != 1 && ci != 2 && ci != 6 && ci != 7 && ci != 8
  | .inr (k, _) => k != 4 && k != 8 && k != 9 && k != 10
def rg_ok_ (x y a : Nat) : Prop := (x ≤ a ∧ a ≤ x + 12) ∨ (y ≤ a ∧ a ≤ y + 34)
theorem md_at {M : mm_M} {y : Nat} (c : mdl_ M y) {k : Nat} (h1 : 1 ≤ k) (h2 : k ≤ 34) : ∃ s, mm_sh M (y + k) = some s ∧ wsh_ s = true := by
  have : ∀ k, k < 34 → ∃ q ∈ md_tab, q.2.1 = k + 1 ∧ wsh_ q.2.2 = true := by decide +kernel
  obtain ⟨q, hq, e, hw⟩ := this (k - 1) (by omega)
  have := (c.2 q hq).2
  rw [e, show k - 1 + 1 = k from by omega] at this
  exact ⟨_, this, hw⟩
theorem rg_sh {M : mm_M} {x y a : Nat} (hx : dsk_ M x) (hy : mdl_ M y) (h : rg_ok_ x y a) : ∃ s, mm_sh M a = some s ∧ wsh_ s = true := by
  obtain ⟨⟨d1, d2, d3, d4, d5, d6, d7, d8, d9, d10, d11, d12, d13, d14, d15⟩, ⟨t1, t2, t3⟩, ⟨k1, k2, k3, k4, k5, k6, k7⟩, r1, c1, c2⟩ := hx
  rcases h with h | h
  · rcases (by omega : a = x ∨ a = x + 1 ∨ a = x + 2 ∨ a = x + 3 ∨ a = x + 4 ∨ a = x + 4 + 1 ∨ a = x + 6 ∨ a = x + 6 + 1 ∨ a = x + 6 + 2 ∨ a = x + 6 + 3 ∨ a = x + 10 ∨ a = x + 11 ∨ a = x + 12) with rfl | rfl | rfl | rfl | rfl | rfl | rfl | rfl | rfl | rfl | rfl | rfl | rfl
    · exact ⟨_, d1, rfl⟩
    · exact ⟨_, d3, rfl⟩
    · exact ⟨_, d5, rfl⟩
    · exact ⟨_, d7, rfl⟩
    · exact ⟨_, t1, rfl⟩
    · exact ⟨_, t3, rfl⟩
    · exact ⟨_, k1, rfl⟩
    · exact ⟨_, k3, rfl⟩
    · exact ⟨_, k5, rfl⟩
    · exact ⟨_, k7, rfl⟩
    · exact ⟨_, d13, rfl⟩
    · exact ⟨_, d15, rfl⟩
    · exact ⟨_, c2, rfl⟩
  · rcases (by omega : a = y ∨ 1 ≤ a - y ∧ a - y ≤ 34) with rfl | h2
    · exact ⟨_, hy.1, rfl⟩
    · have := md_at hy h2.1 h2.2
      rw [show y + (a - y) = a from by omega] at this
      exact this
def ou_ (x y a : Nat) : Prop := ¬ rg_ok_ x y a
theorem ou_fresh {M : mm_M} {x y a : Nat} (hx : dsk_ M x) (hy : mdl_ M y) (h : ∀ u, ¬ mm_sh M a = some u) : ou_ x y a := fun q => by
  obtain ⟨s, hs, -⟩ := rg_sh hx hy q
  exact h s hs
/-- what is written lies among x .. x + 12, y .. y + 34, or has the shape of what a port holds -/
def wok_ (M : mm_M) (x y : Nat) (W : Nat → Nat → Prop) : Prop := ∀ a j, W a j → rg_ok_ x y a ∨ mm_sh M a = some (.inl 3) ∨ mm_sh M a = some (.inr (0, 5)) ∨ mm_sh M a = some (.inr (0, 30)) ∨ mm_sh M a = some (.inr (2, 30))
theorem wok_sh {M : mm_M} {x y : Nat} {W : Nat → Nat → Prop} (hx : dsk_ M x) (hy : mdl_ M y) (h : wok_ M x y W) {a j : Nat} {s : mm_S} (hw : W a j) (hs : mm_sh M a = some s) : wsh_ s = true := by
  rcases h a j hw with h | h | h | h | h
  · obtain ⟨s2, h2, h3⟩ := rg_sh hx hy h
    cases hs.symm.trans h2
    exact h3
  · cases hs.symm.trans h; rfl
  · cases hs.symm.trans h; rfl
  · cases hs.symm.trans h; rfl
  · cases hs.symm.trans h; rfl
def vok_ (x y : Nat) (V : Nat → Prop) : Prop := ∀ a, V a → a = x + 1 ∨ a = x + 2 ∨ a = x + 3 ∨ a = x + 11 ∨ a = y + 1
theorem vok_sh {M : mm_M} {x y : Nat} {V : Nat → Prop} (hx : dsk_ M x) (hy : mdl_ M y) (h : vok_ x y V) {a : Nat} {s : mm_S} (hw : V a) (hs : mm_sh M a = some s) : wsh_ s = true := by
  have : rg_ok_ x y a := by
    rcases h a hw with e | e | e | e | e <;> (subst e; unfold rg_ok_; omega)
  obtain ⟨s2, h2, h3⟩ := rg_sh hx hy this
  cases hs.symm.trans h2
  exact h3
theorem vok_n {x y : Nat} {V : Nat → Prop} (h : vok_ x y V) (hxy : x + 13 ≤ y) : ¬ V x ∧ ¬ V (x + 4) ∧ ¬ V (x + 6) ∧ ¬ V (x + 10) ∧ ¬ V y := by
  refine ⟨fun q => ?_, fun q => ?_, fun q => ?_, fun q => ?_, fun q => ?_⟩ <;> (have := h _ q; omega)
/-! the relation -/
abbrev pr_T : Type := Nat × Nat × (Nat → Nat) × (Nat → Bool) × (Nat → Nat)
def rS_ (M : mm_M) (x y w0 s0 v0 bs L : Nat) (xs : Nat → Int32) : Prop := x + 13 ≤ y ∧ dsk_ M x ∧ mdl_ M y ∧ wtb_ M w0 ∧ (mm_sh M s0 = some (.inr (10, 5)) ∧ ∀ i, i < 5 → mm_I M s0 i = nI (Sp i)) ∧ wtb_ M v0 ∧ mm_sh M bs = some (.inr (10, L)) ∧ ∀ j, j < L → mm_I M bs j = xs j
def rp1_ (M : mm_M) (x y T td N q p : Nat) (r : pr_T) : Prop :=
  mm_R M (x + 1) q = some p ∧ prt_ M p ∧ (ou_ x y p ∧ ou_ x y (p + 1) ∧ ou_ x y (p + 2) ∧ ou_ x y (p + 3)) ∧ (mm_I M p 0 = nI r.1 ∧ mm_I M p 1 = nI r.2.1 ∧ mm_I M p 5 = nI T) ∧ (mm_I M (y + 16) q = mm_I M p 6 ∧ mm_I M (y + 17) q = mm_I M p 7 ∧ nb_ (mm_I M p 7) 0 N) ∧ (∀ t, t < T → mm_I M (p + 2) t = nI (r.2.2.1 t) ∧ mm_I M (p + 3) t = mm_b (r.2.2.2.1 t)) ∧ (∀ t, T ≤ t → t < 30 → mm_I M (p + 3) t = 0) ∧ md_BP M y q T td td r.1 r.2.1 r.2.2.1 r.2.2.2.1 ∧ (∀ i, i < 5 → mm_I M (p + 1) i = nI (r.2.2.2.2 i) ∧ mm_I M (y + 19) (5 * q + i) = nI (r.2.2.2.2 i)) ∧ (1 ≤ r.1 ∧ r.1 ≤ 60 ∧ r.2.1 ≤ td ∧ (∀ a b, a ≤ b → b < T → r.2.2.1 a ≤ r.2.2.1 b) ∧ (∀ a, a < T → r.2.2.1 a ≤ td + r.1))
def rz_ (M : mm_M) (y P : Nat) : Prop := ∀ q, P ≤ q → q < 8 → mm_I M (y + 16) q = 0 ∧ mm_I M (y + 17) q = 0 ∧ mm_I M (y + 18) q = 0 ∧ ∀ i, i < 5 → mm_I M (y + 19) (5 * q + i) = 0
def rP_ (M : mm_M) (x y P T td N : Nat) (pa : Nat → Nat) (ar : Nat → pr_T) : Prop := (P ≤ 8 ∧ T ≤ 30 ∧ td ≤ 10000 ∧ N ≤ 200) ∧ (mm_I M x 7 = nI P ∧ mm_I M y 26 = nI P ∧ mm_I M x 10 = nI td ∧ mm_I M y 27 = nI td) ∧ (∀ q, q < P → rp1_ M x y T td N q (pa q) (ar q)) ∧ (∀ q r, q < P → r < P → pa q = pa r → q = r) ∧ rz_ M y P ∧ ∀ q i, (ar q).2.2.2.2 i ≤ 10000
def rT_ (M : mm_M) (x y T : Nat) (ta la : Nat → Nat) (tl : Nat → List ps_L) : Prop := dTL_ M x T ta la tl ∧ vtl_ T tl ∧ rTL_ M y T tl ∧ mm_I M y 14 = nI T ∧ ∀ t, t < T → mm_I M (y + 3) t = mm_I M (ta t) 0
def rn1_ (M : mm_M) (x y P td i a k p : Nat) (pa : Nat → Nat) : Prop := (ou_ x y k ∧ ∀ q, q < P → k ≠ pa q + 1) ∧ (mm_I M a 0 = nI p ∧ p < P) ∧ (nb_ (mm_I M a 2) 0 9999 ∧ nb_ (mm_I M a 3) 0 9999 ∧ nb_ (mm_I M a 4) 0 9999 ∧ nb_ (mm_I M a 5) 0 td) ∧ (mm_I M (y + 24) i = mm_I M a 0 ∧ mm_I M (y + 25) i = mm_I M a 1 ∧ mm_I M (y + 26) i = mm_I M a 2 ∧ mm_I M (y + 27) i = mm_I M a 3 ∧ mm_I M (y + 28) i = mm_I M a 5 ∧ mm_I M (y + 29) i = mm_I M a 6 ∧ mm_I M (y + 30) i = mm_I M a 7 ∧ mm_I M (y + 31) i = mm_I M a 4) ∧ ∀ w, w < 5 → mm_I M (y + 32) (5 * i + w) = mm_I M k w
def rN_ (M : mm_M) (x y P td N : Nat) (pa pp tk pq : Nat → Nat) : Prop := dN_ M x N pp tk ∧ mm_I M y 38 = nI N ∧ ∀ i, i < N → rn1_ M x y P td i (pp i) (tk i) (pq i) pa
def rB_ (M : mm_M) (x y tp : Nat) : Prop := mm_I M (x + 4) 1 = nI tp ∧ mm_I M y 6 = nI tp ∧ tp ≤ 300 ∧ ∀ k, k < tp → mm_I M (x + 5) k = mm_I M (y + 2) k &&& 255 ∧ ∃ c, c < 256 ∧ mm_I M (x + 5) k = nI c
def rX_ (M : mm_M) (x y : Nat) : Prop := mm_I M y 1 = mm_I M x 11 ∧ mm_I M y 3 = mm_I M x 12 ∧ mm_I M y 2 = if mm_I M x 11 = 4 then mm_I M (x + 10) 1 else -1
def Rel_ (x y w0 s0 v0 bs L : Nat) (xs : Nat → Int32) (M : mm_M) : Prop := rS_ M x y w0 s0 v0 bs L xs ∧ rX_ M x y ∧ ∃ (P T td N tp : Nat) (pa : Nat → Nat) (ar : Nat → pr_T) (ta la : Nat → Nat) (tl : Nat → List ps_L) (pp tk pq : Nat → Nat), rP_ M x y P T td N pa ar ∧ rT_ M x y T ta la tl ∧ rN_ M x y P td N pa pp tk pq ∧ rB_ M x y tp
/-! the relation over a frame -/
theorem rS_fr {W : Nat → Nat → Prop} {V : Nat → Prop} {M M' : mm_M} {x y w0 s0 v0 bs L : Nat} {xs : Nat → Int32} (h : fr_ W V M M') (hW : wok_ M x y W) (hV : vok_ x y V) (h11 : mm_R M' (x + 11) 0 = some (x + 12)) (c : rS_ M x y w0 s0 v0 bs L xs) : rS_ M' x y w0 s0 v0 bs L xs := by
  obtain ⟨c1, c2, c3, c4, c5, c6, c7, c8⟩ := c
  have hv := vok_n hV c1
  have nt : ∀ {a n : Nat}, mm_sh M a = some (.inr (10, n)) → ∀ j, ¬ W a j := fun ha j q => by
    have := wok_sh c2 c3 hW q ha
    cases this
  refine ⟨c1, fr_dsk h ⟨hv.1, hv.2.1, hv.2.2.1, hv.2.2.2.1⟩ h11 c2, fr_mdl h hv.2.2.2.2 c3, ⟨(h _ _ c4.1).1, fun i hi => ?_⟩, ⟨(h _ _ c5.1).1, fun i hi => ?_⟩, ⟨(h _ _ c6.1).1, fun i hi => ?_⟩, (h _ _ c7).1, fun j hj => ?_⟩
  · rw [(h _ _ c4.1).2.1 i (nt c4.1 i)]; exact c4.2 i hi
  · rw [(h _ _ c5.1).2.1 i (nt c5.1 i)]; exact c5.2 i hi
  · rw [(h _ _ c6.1).2.1 i (nt c6.1 i)]; exact c6.2 i hi
  · rw [(h _ _ c7).2.1 j (nt c7 j)]; exact c8 j hj
theorem fr_y {W : Nat → Nat → Prop} {V : Nat → Prop} {M M' : mm_M} {y : Nat} (h : fr_ W V M M') (hy : mdl_ M y) {k j : Nat} (hk : k ≤ 34) (hw : ¬ W (y + k) j) : mm_I M' (y + k) j = mm_I M (y + k) j := by
  rcases Nat.eq_zero_or_pos k with e | e
  · subst e; exact (h _ _ hy.1).2.1 j hw
  · obtain ⟨s, hs, -⟩ := md_at hy e hk
    exact (h _ _ hs).2.1 j hw
theorem rp1_fr {W : Nat → Nat → Prop} {V : Nat → Prop} {M M' : mm_M} {x y T td N q p : Nat} {r : pr_T} (h : fr_ W V M M') (hx : dsk_ M x) (hy : mdl_ M y) (hV : vok_ x y V) (v1 : ¬ V (x + 1)) (e1 : ∀ k j, 14 ≤ k → k ≤ 23 → ¬ W (y + k) j) (e2 : ∀ i j, i ≤ 3 → ¬ W (p + i) j) (c : rp1_ M x y T td N q p r) : rp1_ M' x y T td N q p r := by
  obtain ⟨c1, c2, c3, c4, c5, c6, c7, c8, c9, c10⟩ := c
  have hVp : ¬ V p := fun z => by
    have := c3.1
    rcases hV _ z with e | e | e | e | e <;> (subst e; exact this (by unfold rg_ok_; omega))
  have f0 : ∀ j, mm_I M' p j = mm_I M p j := fun j => (h _ _ c2.1).2.1 j (e2 0 j (by decide))
  have f1 : ∀ j, mm_I M' (p + 1) j = mm_I M (p + 1) j := fun j => (h _ _ c2.2.2.1).2.1 j (e2 1 j (by decide))
  have f2 : ∀ j, mm_I M' (p + 2) j = mm_I M (p + 2) j := fun j => (h _ _ c2.2.2.2.2.1).2.1 j (e2 2 j (by decide))
  have f3 : ∀ j, mm_I M' (p + 3) j = mm_I M (p + 3) j := fun j => (h _ _ c2.2.2.2.2.2.2).2.1 j (e2 3 j (by decide))
  have g : ∀ k j, 14 ≤ k → k ≤ 23 → mm_I M' (y + k) j = mm_I M (y + k) j := fun k j h1 h2 => fr_y h hy (by omega) (e1 k j h1 h2)
  refine ⟨by rw [(h _ _ (dsk_s0 hx)).2.2 v1]; exact c1, fr_prt h hVp c2, c3, ?_, ?_, fun t ht => ?_, fun t h1 h2 => ?_, ?_, fun i hi => ?_, c10⟩
  · rw [f0, f0, f0]; exact c4
  · rw [f0, f0, g 16 q (by decide) (by decide), g 17 q (by decide) (by decide)]; exact c5
  · rw [f2, f3]; exact c6 t ht
  · rw [f3]; exact c7 t h1 h2
  · obtain ⟨b1, b2, b3, b4⟩ := c8
    refine ⟨by rw [g 14 q (by decide) (by decide)]; exact b1, by rw [g 15 q (by decide) (by decide)]; exact b2, by rw [g 18 q (by decide) (by decide)]; exact b3, fun t ht => ?_⟩
    rw [g 20 _ (by decide) (by decide), g 21 _ (by decide) (by decide), g 22 _ (by decide) (by decide), g 23 _ (by decide) (by decide)]
    exact b4 t ht
  · rw [f1, g 19 _ (by decide) (by decide)]; exact c9 i hi
theorem rP_fr {W : Nat → Nat → Prop} {V : Nat → Prop} {M M' : mm_M} {x y P T td N : Nat} {pa : Nat → Nat} {ar : Nat → pr_T} (h : fr_ W V M M') (hx : dsk_ M x) (hy : mdl_ M y) (hV : vok_ x y V) (v1 : ¬ V (x + 1)) (w1 : ¬ W x 7 ∧ ¬ W x 10 ∧ ¬ W y 26 ∧ ¬ W y 27) (e1 : ∀ k j, 14 ≤ k → k ≤ 23 → ¬ W (y + k) j) (e2 : ∀ q i j, q < P → i ≤ 3 → ¬ W (pa q + i) j) (c : rP_ M x y P T td N pa ar) : rP_ M' x y P T td N pa ar := by
  obtain ⟨c1, c2, c3, c4, c5, c6⟩ := c
  have g : ∀ k j, 14 ≤ k → k ≤ 23 → mm_I M' (y + k) j = mm_I M (y + k) j := fun k j h1 h2 => fr_y h hy (by omega) (e1 k j h1 h2)
  refine ⟨c1, ?_, fun q hq => rp1_fr h hx hy hV v1 e1 (fun i j => e2 q i j hq) (c3 q hq), c4, fun q h1 h2 => ?_, c6⟩
  · rw [(h _ _ hx.1.1).2.1 7 w1.1, (h _ _ hx.1.1).2.1 10 w1.2.1, (h _ _ hy.1).2.1 26 w1.2.2.1, (h _ _ hy.1).2.1 27 w1.2.2.2]
    exact c2
  · obtain ⟨z1, z2, z3, z4⟩ := c5 q h1 h2
    refine ⟨by rw [g 16 q (by decide) (by decide)]; exact z1, by rw [g 17 q (by decide) (by decide)]; exact z2, by rw [g 18 q (by decide) (by decide)]; exact z3, fun i hi => by rw [g 19 _ (by decide) (by decide)]; exact z4 i hi⟩
theorem rTL_fr {W : Nat → Nat → Prop} {V : Nat → Prop} {M M' : mm_M} {y t : Nat} {ls : List ps_L} (h : fr_ W V M M') (hy : mdl_ M y) (w1 : ¬ W (y + 4) t) (w2 : ∀ k j, 5 ≤ k → k ≤ 7 → 12 * t ≤ j → j < 12 * t + 12 → ¬ W (y + k) j) (w3 : ∀ k j, 8 ≤ k → k ≤ 13 → 48 * t ≤ j → j < 48 * t + 48 → ¬ W (y + k) j) (c : rr_all M y t ls) : rr_all M' y t ls := by
  obtain ⟨c1, c2, c3⟩ := c
  have g5 : ∀ k j, 5 ≤ k → k ≤ 7 → 12 * t ≤ j → j < 12 * t + 12 → mm_I M' (y + k) j = mm_I M (y + k) j := fun k j h1 h2 h3 h4 => fr_y h hy (by omega) (w2 k j h1 h2 h3 h4)
  have g8 : ∀ k j, 8 ≤ k → k ≤ 13 → 48 * t ≤ j → j < 48 * t + 48 → mm_I M' (y + k) j = mm_I M (y + k) j := fun k j h1 h2 h3 h4 => fr_y h hy (by omega) (w3 k j h1 h2 h3 h4)
  refine ⟨by rw [fr_y h hy (by decide) w1]; exact c1, c2, fun k q hk => ?_⟩
  have hk2 := (List.getElem?_eq_some_iff.mp hk).1
  obtain ⟨d1, d2, d3, d4, d5, d6, d7⟩ := c3 k q hk
  refine ⟨by rw [g5 5 _ (by decide) (by decide) (by omega) (by omega)]; exact d1, by rw [g5 6 _ (by decide) (by decide) (by omega) (by omega)]; exact d2, d3, by rw [g5 7 _ (by decide) (by decide) (by omega) (by omega)]; exact d4, d5, fun i u hu => ?_, fun i u hu => ?_⟩
  · have hi := (List.getElem?_eq_some_iff.mp hu).1
    obtain ⟨e1, e2, e3⟩ := d6 i u hu
    exact ⟨by rw [g8 8 _ (by decide) (by decide) (by omega) (by omega)]; exact e1, by rw [g8 9 _ (by decide) (by decide) (by omega) (by omega)]; exact e2, by rw [g8 10 _ (by decide) (by decide) (by omega) (by omega)]; exact e3⟩
  · have hi := (List.getElem?_eq_some_iff.mp hu).1
    obtain ⟨e1, e2, e3⟩ := d7 i u hu
    exact ⟨by rw [g8 12 _ (by decide) (by decide) (by omega) (by omega)]; exact e1, by rw [g8 11 _ (by decide) (by decide) (by omega) (by omega)]; exact e2, by rw [g8 13 _ (by decide) (by decide) (by omega) (by omega)]; exact e3⟩
theorem lsl_fr {W : Nat → Nat → Prop} {V : Nat → Prop} {M M' : mm_M} {x y la : Nat} {ls : List ps_L} (h : fr_ W V M M') (hx : dsk_ M x) (hy : mdl_ M y) (hW : wok_ M x y W) (hV : vok_ x y V) (ha : mm_sh M la = some (.inr (4, 12))) (c : lsl_ M la ls) : lsl_ M' la ls := by
  refine lsl_nw2 (M' := lgo_ M M') (fr_2nw h) ha (fun a q => ?_) (fun a q => ?_) (fun q => ?_) c
  · obtain ⟨j, hj⟩ := q
    exact ⟨fun z => (by cases wok_sh hx hy hW hj z), fun z => (by cases wok_sh hx hy hW hj z), fun z => (by cases wok_sh hx hy hW hj z)⟩
  · exact ⟨fun z => (by cases vok_sh hx hy hV q z), fun z => (by cases vok_sh hx hy hV q z), fun z => (by cases vok_sh hx hy hV q z)⟩
  · cases vok_sh hx hy hV q ha
theorem rT_fr {W : Nat → Nat → Prop} {V : Nat → Prop} {M M' : mm_M} {x y T : Nat} {ta la : Nat → Nat} {tl : Nat → List ps_L} (h : fr_ W V M M') (hx : dsk_ M x) (hy : mdl_ M y) (hW : wok_ M x y W) (hV : vok_ x y V) (v1 : ¬ V (x + 2)) (w1 : ¬ W x 8 ∧ ¬ W y 14) (e1 : ∀ k j, 3 ≤ k → k ≤ 13 → ¬ W (y + k) j) (c : rT_ M x y T ta la tl) : rT_ M' x y T ta la tl := by
  obtain ⟨c1, c2, c3, c4, c5⟩ := c
  refine ⟨⟨by rw [(h _ _ hx.1.1).2.1 8 w1.1]; exact c1.1, c1.2.1, fun t ht => ?_⟩, c2, fun t ht => rTL_fr h hy (e1 4 t (by decide) (by decide)) (fun k j h1 h2 _ _ => e1 k j (by omega) (by omega)) (fun k j h1 h2 _ _ => e1 k j (by omega) (by omega)) (c3 t ht), by rw [(h _ _ hy.1).2.1 14 w1.2]; exact c4, fun t ht => ?_⟩
  · obtain ⟨d1, d2, d3, d4, d5⟩ := c1.2.2 t ht
    refine ⟨by rw [(h _ _ (dsk_s1 hx)).2.2 v1]; exact d1, (h _ _ d2).1, ?_, (h _ _ d4).1, lsl_fr h hx hy hW hV d4 d5⟩
    rw [(h _ _ d2).2.2 (fun q => by cases vok_sh hx hy hV q d2)]; exact d3
  · obtain ⟨d1, d2, -⟩ := c1.2.2 t ht
    rw [fr_y h hy (by decide) (e1 3 t (by decide) (by decide)), (h _ _ d2).2.1 0 (fun q => by cases wok_sh hx hy hW q d2)]
    exact c5 t ht
theorem rn1_fr {W : Nat → Nat → Prop} {V : Nat → Prop} {M M' : mm_M} {x y P td i a k p : Nat} {pa : Nat → Nat} (h : fr_ W V M M') (hx : dsk_ M x) (hy : mdl_ M y) (hW : wok_ M x y W) (ha : mm_sh M a = some (.inl 2)) (hk : mm_sh M k = some (.inr (0, 5))) (e1 : ∀ k j, 24 ≤ k → k ≤ 32 → ¬ W (y + k) j) (e2 : ∀ j, ¬ W k j) (c : rn1_ M x y P td i a k p pa) : rn1_ M' x y P td i a k p pa := by
  obtain ⟨c1, c2, c3, c4, c5⟩ := c
  have f : ∀ j, mm_I M' a j = mm_I M a j := fun j => (h _ _ ha).2.1 j (fun q => by cases wok_sh hx hy hW q ha)
  have f2 : ∀ j, mm_I M' k j = mm_I M k j := fun j => (h _ _ hk).2.1 j (e2 j)
  have g : ∀ k j, 24 ≤ k → k ≤ 32 → mm_I M' (y + k) j = mm_I M (y + k) j := fun k j h1 h2 => fr_y h hy (by omega) (e1 k j h1 h2)
  refine ⟨c1, ?_, ?_, ?_, fun w hw => ?_⟩
  · rw [f]; exact c2
  · rw [f, f, f, f]; exact c3
  · rw [g 24 _ (by decide) (by decide), g 25 _ (by decide) (by decide), g 26 _ (by decide) (by decide), g 27 _ (by decide) (by decide), g 28 _ (by decide) (by decide), g 29 _ (by decide) (by decide), g 30 _ (by decide) (by decide), g 31 _ (by decide) (by decide), f, f, f, f, f, f, f, f]
    exact c4
  · rw [g 32 _ (by decide) (by decide), f2]; exact c5 w hw
theorem dN_fr {W : Nat → Nat → Prop} {V : Nat → Prop} {M M' : mm_M} {x y N : Nat} {pp tk : Nat → Nat} (h : fr_ W V M M') (hx : dsk_ M x) (hy : mdl_ M y) (hV : vok_ x y V) (v1 : ¬ V (x + 3)) (w1 : ¬ W x 9) (c : dN_ M x N pp tk) : dN_ M' x N pp tk := by
  refine ⟨by rw [(h _ _ hx.1.1).2.1 9 w1]; exact c.1, c.2.1, fun i hi => ?_⟩
  obtain ⟨d1, d2, d3, d4⟩ := c.2.2 i hi
  refine ⟨by rw [(h _ _ (dsk_s2 hx)).2.2 v1]; exact d1, (h _ _ d2).1, ?_, (h _ _ d4).1⟩
  rw [(h _ _ d2).2.2 (fun q => by cases vok_sh hx hy hV q d2)]; exact d3
theorem rN_fr {W : Nat → Nat → Prop} {V : Nat → Prop} {M M' : mm_M} {x y P td N : Nat} {pa pp tk pq : Nat → Nat} (h : fr_ W V M M') (hx : dsk_ M x) (hy : mdl_ M y) (hW : wok_ M x y W) (hV : vok_ x y V) (v1 : ¬ V (x + 3)) (w1 : ¬ W x 9 ∧ ¬ W y 38) (e1 : ∀ k j, 24 ≤ k → k ≤ 32 → ¬ W (y + k) j) (e2 : ∀ i j, i < N → ¬ W (tk i) j) (c : rN_ M x y P td N pa pp tk pq) : rN_ M' x y P td N pa pp tk pq := by
  obtain ⟨c1, c2, c3⟩ := c
  exact ⟨dN_fr h hx hy hV v1 w1.1 c1, by rw [(h _ _ hy.1).2.1 38 w1.2]; exact c2, fun i hi => rn1_fr h hx hy hW (c1.2.2 i hi).2.1 (c1.2.2 i hi).2.2.2 e1 (fun j => e2 i j hi) (c3 i hi)⟩
theorem rB_fr {W : Nat → Nat → Prop} {V : Nat → Prop} {M M' : mm_M} {x y tp : Nat} (h : fr_ W V M M') (hx : dsk_ M x) (hy : mdl_ M y) (w1 : ¬ W (x + 4) 1 ∧ ¬ W y 6) (e1 : ∀ j, ¬ W (x + 5) j ∧ ¬ W (y + 2) j) (c : rB_ M x y tp) : rB_ M' x y tp := by
  obtain ⟨c1, c2, c3, c4⟩ := c
  have f : ∀ j, mm_I M' (x + 5) j = mm_I M (x + 5) j := fun j => (h _ _ hx.2.1.2.2).2.1 j (e1 j).1
  refine ⟨by rw [(h _ _ hx.2.1.1).2.1 1 w1.1]; exact c1, by rw [(h _ _ hy.1).2.1 6 w1.2]; exact c2, c3, fun k hk => ?_⟩
  rw [f, fr_y h hy (by decide) (e1 k).2]
  exact c4 k hk
/-- what any call may write -/
def wk_ (x y a j : Nat) : Prop := (a = x ∧ (j = 11 ∨ j = 12)) ∨ (x + 6 ≤ a ∧ a ≤ x + 12) ∨ (a = y ∧ (j ≤ 3 ∨ (7 ≤ j ∧ j ≤ 13))) ∨ a = y + 1 ∨ a = y + 34
def vk_ (x y a : Nat) : Prop := a = x + 11 ∨ a = y + 1
theorem wk_ok (M : mm_M) (x y : Nat) : wok_ M x y (wk_ x y) := fun a j h => Or.inl (by unfold wk_ at h; unfold rg_ok_; omega)
theorem vk_ok (x y : Nat) : vok_ x y (vk_ x y) := fun a h => by unfold vk_ at h; omega
theorem ou_wk {x y a j : Nat} (h : ou_ x y a) : ¬ wk_ x y a j := fun q => h (by unfold wk_ at q; unfold rg_ok_; omega)
/-- nothing but workplaces and the trouble have changed -/
theorem Rel_fr {x y w0 s0 v0 bs L : Nat} {xs : Nat → Int32} {M M' : mm_M} (R : Rel_ x y w0 s0 v0 bs L xs M) (h : fr_ (wk_ x y) (vk_ x y) M M') (h11 : mm_R M' (x + 11) 0 = some (x + 12)) (hX : rX_ M' x y) : Rel_ x y w0 s0 v0 bs L xs M' := by
  obtain ⟨rS, -, P, T, td, N, tp, pa, ar, ta, la, tl, pp, tk, pq, rP, rT, rN, rB⟩ := R
  have hxy := rS.1
  have hx := rS.2.1
  have hy := rS.2.2.1
  refine ⟨rS_fr h (wk_ok M x y) (vk_ok x y) h11 rS, hX, P, T, td, N, tp, pa, ar, ta, la, tl, pp, tk, pq, rP_fr h hx hy (vk_ok x y) (by unfold vk_; omega) (by unfold wk_; omega) (fun k j h1 h2 => by unfold wk_; omega) (fun q i j hq hi => ?_) rP, rT_fr h hx hy (wk_ok M x y) (vk_ok x y) (by unfold vk_; omega) (by unfold wk_; omega) (fun k j h1 h2 => by unfold wk_; omega) rT, rN_fr h hx hy (wk_ok M x y) (vk_ok x y) (by unfold vk_; omega) (by unfold wk_; omega) (fun k j h1 h2 => by unfold wk_; omega) (fun i j hi => ou_wk ((rN.2.2 i hi).1.1)) rN, rB_fr h hx hy (by unfold wk_; omega) (fun j => by unfold wk_; omega) rB⟩
  have ho := (rP.2.2.1 q hq).2.2.1
  rcases (by omega : i = 0 ∨ i = 1 ∨ i = 2 ∨ i = 3) with rfl | rfl | rfl | rfl
  · exact ou_wk ho.1
  · exact ou_wk ho.2.1
  · exact ou_wk ho.2.2.1
  · exact ou_wk ho.2.2.2
