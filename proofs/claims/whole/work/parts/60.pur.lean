/-! both desks answer alike: what was sent, asked for, lost -/
theorem nI_m2 {a : Nat} (h : a < 2 ^ 31) : ¬ nI a = -2 := fun e => nI_pos h (by rw [e]; decide)
theorem nI_m1 {a : Nat} (h : a < 2 ^ 31) : ¬ nI a = -1 := fun e => nI_pos h (by rw [e]; decide)
theorem nI_mil {a : Nat} (h : a < 1000000) : ¬ nI a = 1000000 := fun e => by
  have := (nI_eq (a := a) (b := 1000000) (by omega) (by decide)).mp e
  omega
section DISP
variable {M : mm_M} {p T td dy : Nat} {f : Nat → Nat} {l : Nat → Bool}
theorem pg_nx (hc : ∀ t, t < T → mm_I M (p + 2) t = nI (f t) ∧ mm_I M (p + 3) t = mm_b (l t)) (hf : ∀ a, a < T → f a ≤ 20000) (htd : td ≤ 10000) : ∀ r g, g + r = T → pg_ M p (nI td) r g = if nx_ l r g < T ∧ f (nx_ l r g) ≤ td then nI (f (nx_ l r g)) else -2 := by
  intro r
  induction r with
  | zero =>
    intro g hg
    rw [pg_, nx_, if_neg (by omega)]
  | succ r ih =>
    intro g hg
    obtain ⟨c1, c2⟩ := hc g (by omega)
    rw [pg_, nx_, c1, c2]
    cases hl : l g with
    | false =>
      rw [if_pos (show mm_b false = 0 from rfl), show (if false = true then nx_ l r (g + 1) else g) = g from if_neg (by decide)]
      have h1 := hf g (by omega)
      by_cases h : f g ≤ td
      · rw [if_pos (nI_le h (by omega)), if_pos ⟨by omega, h⟩]
      · rw [if_neg (fun q => h (ni_le q (by omega) (by omega))), if_neg (fun q => h q.2)]
    | true =>
      rw [if_neg (by decide), if_pos rfl]
      exact ih (g + 1) (by omega)
theorem pa_ak (hc : ∀ t, t < T → mm_I M (p + 2) t = nI (f t) ∧ mm_I M (p + 3) t = mm_b (l t)) (hf : ∀ a, a < T → f a ≤ 20000) (htd : td ≤ 10000) {t : Nat} (ht : t < T) : pa_ M p T (nI td) t = if ak_ f l T td t = 1000000 then -2 else nI (ak_ f l T td t) := by
  unfold pa_
  obtain ⟨c1, c2⟩ := hc t ht
  rw [c2]
  cases hl : l t with
  | false =>
    rw [if_pos (by rfl), if_pos (ak_neg (fun q => by rw [hl] at q; cases q.1))]
  | true =>
    rw [if_neg (by decide), pg_nx hc hf htd _ _ (by omega)]
    by_cases h : nx_ l (T - (t + 1)) (t + 1) < T ∧ f (nx_ l (T - (t + 1)) (t + 1)) ≤ td
    · have ea : ak_ f l T td t = f (nx_ l (T - (t + 1)) (t + 1)) := ak_pos hl h.1 h.2
      rw [if_pos h, ea, if_neg (by omega)]
    · have ea : ak_ f l T td t = 1000000 := ak_neg (fun q => h ⟨q.2.1, q.2.2⟩)
      rw [if_neg h, ea, if_pos rfl]
theorem cm_le (hf : ∀ a, a < T → f a ≤ 20000) (htd : td ≤ 10000) (hdy : dy ≤ 60) {t : Nat} (ht : t < T) : cm_ f l dy T td t ≤ 1000000 := by
  unfold cm_ ag_
  have := hf t ht
  rcases ak_le (f := f) (l := l) (T := T) (td := td) (t := t) (by omega) with h | h
  · repeat' split
    all_goals omega
  · repeat' split
    all_goals omega
theorem pc_cm (hc : ∀ t, t < T → mm_I M (p + 2) t = nI (f t) ∧ mm_I M (p + 3) t = mm_b (l t)) (h0 : mm_I M p 0 = nI dy) (hf : ∀ a, a < T → f a ≤ 20000) (htd : td ≤ 10000) (hdy : dy ≤ 60) {t : Nat} (ht : t < T) : pc_ M p T (nI td) t = if cm_ f l dy T td t ≤ td then nI (cm_ f l dy T td t) else -2 := by
  unfold pc_ cm_
  rw [pa_ak hc hf htd ht, h0]
  obtain ⟨c1, c2⟩ := hc t ht
  have hft := hf t ht
  rw [c2, c1]
  cases hl : l t with
  | false =>
    rw [if_pos (show mm_b false = 0 from rfl), show (if false = true then ag_ f l dy T td t else f t) = f t from if_neg (by decide)]
    unfold pd_
    by_cases h : f t ≤ td
    · rw [if_pos (nI_le h (by omega)), if_pos h]
    · rw [if_neg (fun q => h (ni_le q (by omega) (by omega))), if_neg h]
  | true =>
    rw [if_neg (by decide), if_pos rfl]
    unfold ag_
    by_cases hk : ak_ f l T td t = 1000000
    · rw [if_pos hk, if_pos hk, if_pos rfl, if_neg (by omega)]
    · have hle : ak_ f l T td t ≤ td := by
        rcases ak_le (f := f) (l := l) (T := T) (td := td) (t := t) (by omega) with h | h
        · exact h
        · exact absurd h hk
      rw [if_neg hk, if_neg hk, if_neg (nI_m2 (by omega))]
      rw [show 2 * nI dy = nI (2 * dy) from pk_mul 2 dy, nI_add]
      unfold pd_
      by_cases h : ak_ f l T td t + 2 * dy ≤ td
      · rw [if_pos (nI_le h (by omega)), if_pos h]
      · rw [if_neg (fun q => h (ni_le q (by omega) (by omega))), if_neg h]
theorem pc_m2 (hc : ∀ t, t < T → mm_I M (p + 2) t = nI (f t) ∧ mm_I M (p + 3) t = mm_b (l t)) (h0 : mm_I M p 0 = nI dy) (hf : ∀ a, a < T → f a ≤ 20000) (htd : td ≤ 10000) (hdy : dy ≤ 60) {t : Nat} (ht : t < T) : pc_ M p T (nI td) t = -2 ↔ td < cm_ f l dy T td t := by
  rw [pc_cm hc h0 hf htd hdy ht]
  by_cases h : cm_ f l dy T td t ≤ td
  · rw [if_pos h]
    exact ⟨fun e => absurd e (nI_m2 (by omega)), fun e => by omega⟩
  · rw [if_neg h]
    exact ⟨fun _ => by omega, fun _ => rfl⟩
end DISP
section PORT
variable {M : mm_M} {x y T td N q p : Nat} {r : pr_T}
theorem rp_f (c : rp1_ M x y T td N q p r) (htd : td ≤ 10000) : ∀ a, a < T → r.2.2.1 a ≤ 20000 := fun a ha => by
  have := c.2.2.2.2.2.2.2.2.2.2.2.2.2 a ha
  have := c.2.2.2.2.2.2.2.2.2.2.1
  omega
theorem rp_pc (c : rp1_ M x y T td N q p r) (htd : td ≤ 10000) {t : Nat} (ht : t < T) : pc_ M p T (nI td) t = if cm_ r.2.2.1 r.2.2.2.1 r.1 T td t ≤ td then nI (cm_ r.2.2.1 r.2.2.2.1 r.1 T td t) else -2 := pc_cm c.2.2.2.2.2.1 c.2.2.2.1.1 (rp_f c htd) htd c.2.2.2.2.2.2.2.2.2.2.1 ht
theorem rp_pm (c : rp1_ M x y T td N q p r) (htd : td ≤ 10000) {t : Nat} (ht : t < T) : pc_ M p T (nI td) t = -2 ↔ td < cm_ r.2.2.1 r.2.2.2.1 r.1 T td t := pc_m2 c.2.2.2.2.2.1 c.2.2.2.1.1 (rp_f c htd) htd c.2.2.2.2.2.2.2.2.2.2.1 ht
theorem rp_cb (c : rp1_ M x y T td N q p r) (htd : td ≤ 10000) {t : Nat} (ht : t < T) : cm_ r.2.2.1 r.2.2.2.1 r.1 T td t ≤ 1000000 := cm_le (rp_f c htd) htd c.2.2.2.2.2.2.2.2.2.2.1 ht
theorem rp_com (c : rp1_ M x y T td N q p r) {t : Nat} (ht : t < T) : md_com M y (30 * q + t) = nI (cm_ r.2.2.1 r.2.2.2.1 r.1 T td t) := md_com_B c.2.2.2.2.2.2.2.1 ht
theorem rp_pa (c : rp1_ M x y T td N q p r) (htd : td ≤ 10000) {t : Nat} (ht : t < T) : pa_ M p T (nI td) t = if ak_ r.2.2.1 r.2.2.2.1 T td t = 1000000 then -2 else nI (ak_ r.2.2.1 r.2.2.2.1 T td t) := pa_ak c.2.2.2.2.2.1 (rp_f c htd) htd ht
/-- dispatches under way -/
theorem rp_u0 (c : rp1_ M x y T td N q p r) (htd : td ≤ 10000) (h27 : mm_I M y 27 = nI td) {t : Nat} (ht : t < T) : po_ M p T (nI td) t = md_u0 M y q t := by
  unfold po_ md_u0 md_hm
  have hb := c.2.2.2.2.2.2.2.1
  obtain ⟨b1, b2, b3, b4⟩ := hb.2.2.2 t ht
  obtain ⟨c1, c2⟩ := c.2.2.2.2.2.1 t ht
  have hf := rp_f c htd t ht
  have hdy := c.2.2.2.2.2.2.2.2.2.2.1
  have hcb := rp_cb c htd ht
  refine decide_eq_decide.mpr ?_
  rw [rp_pm c htd ht, rp_pa c htd ht, c2, b1, b2, b3, b4, h27, c.2.2.2.1.1, hb.1]
  generalize r.1 = dy at *
  generalize r.2.2.1 = f at *
  generalize r.2.2.2.1 = l at *
  cases hl : l t with
  | false =>
    have ea : ak_ f l T td t = 1000000 := ak_neg (fun q => by rw [hl] at q; cases q.1)
    have ec : cm_ f l dy T td t = f t := by unfold cm_; rw [if_neg (by rw [hl]; decide)]
    rw [ea, ec]
    constructor
    · rintro ⟨h1, -⟩
      exact Or.inl ⟨rfl, nI_lt h1 (by omega)⟩
    · rintro (⟨-, h⟩ | ⟨h, -⟩)
      · exact ⟨ni_lt h (by omega) (by omega), Or.inl rfl⟩
      · rw [if_pos (show nI 1000000 = 1000000 from rfl)] at h
        exact absurd (ni_le (a := 1000000) h (by decide) (by omega)) (by omega)
  | true =>
    have ec : cm_ f l dy T td t = ag_ f l dy T td t := by unfold cm_; rw [if_pos hl]
    rw [ec]
    by_cases hk : ak_ f l T td t = 1000000
    · rw [if_pos hk, hk]
      constructor
      · rintro ⟨-, h | ⟨h, -⟩⟩
        · cases h
        · exact absurd rfl h
      · rintro (⟨h, -⟩ | ⟨h, -⟩)
        · cases h
        · rw [if_pos (show nI 1000000 = 1000000 from rfl)] at h
          exact absurd (ni_le (a := 1000000) h (by decide) (by omega)) (by omega)
    · have hle : ak_ f l T td t ≤ td := by
        rcases ak_le (f := f) (l := l) (T := T) (td := td) (t := t) (by omega) with h | h
        · exact h
        · exact absurd h hk
      have eg : ag_ f l dy T td t = ak_ f l T td t + 2 * dy := by unfold ag_; rw [if_neg hk]
      rw [if_neg hk, if_neg (nI_mil (by omega)), eg, nI_add]
      constructor
      · rintro ⟨h1, h | ⟨-, h⟩⟩
        · cases h
        · exact Or.inr ⟨h, nI_lt h1 (by omega)⟩
      · rintro (⟨h, -⟩ | ⟨h, h2⟩)
        · cases h
        · exact ⟨ni_lt h2 (by omega) (by omega), Or.inr ⟨nI_m2 (by omega), h⟩⟩
/-- questions under way -/
theorem rp_u1 (c : rp1_ M x y T td N q p r) (htd : td ≤ 10000) (h27 : mm_I M y 27 = nI td) {t : Nat} (ht : t < T) : pk_o M p T (nI td) t = md_u1 M y q t := by
  unfold pk_o md_u1 md_hm
  have hb := c.2.2.2.2.2.2.2.1
  obtain ⟨b1, b2, b3, b4⟩ := hb.2.2.2 t ht
  have hdy := c.2.2.2.2.2.2.2.2.2.2.1
  refine decide_eq_decide.mpr ?_
  rw [rp_pa c htd ht, b3, h27, c.2.2.2.1.1, hb.1]
  generalize r.1 = dy at *
  generalize r.2.2.1 = f at *
  generalize r.2.2.2.1 = l at *
  by_cases hk : ak_ f l T td t = 1000000
  · rw [if_pos hk, hk]
    exact ⟨fun h => absurd rfl h.1, fun h => absurd (if_pos rfl) h.1⟩
  · have hle : ak_ f l T td t ≤ td := by
      rcases ak_le (f := f) (l := l) (T := T) (td := td) (t := t) (by omega) with h | h
      · exact h
      · exact absurd h hk
    rw [if_neg hk, if_neg (nI_mil (by omega)), nI_add]
    exact ⟨fun h => ⟨nI_mil (by omega), h.2⟩, fun h => ⟨nI_m2 (by omega), h.2⟩⟩
theorem ab_n {n : Nat} (h : n ≤ 30000) : ab_ (nI n) = nI ((n + 29) / 30) := by
  unfold ab_
  by_cases h0 : 0 < n
  · rw [if_pos (show (0 : Int32) < nI n from nI_lt (a := 0) h0 (by omega)), show (30 : Int32) = nI 30 from rfl, nI_add, nI_pred (n + 29), pk_div (by omega) (by decide) (by decide)]
  · rw [if_neg (fun (q : (0 : Int32) < nI n) => h0 (ni_lt (a := 0) q (by decide) (by omega))), show n = 0 from by omega]
    rfl
theorem ab_s {td dy : Nat} (htd : td ≤ 10000) (hdy : dy ≤ 60) : ab_ (nI td - nI dy + 1) = nI ((td + 1 - dy + 29) / 30) := by
  by_cases h : dy ≤ td
  · rw [pk_sub h, nI_1, ab_n (by omega), show td - dy + 1 = td + 1 - dy from by omega]
  · have hneg : nI td - nI dy < 0 := pk_sneg (by omega) (by omega)
    have : ¬ (0 : Int32) < nI td - nI dy + 1 := by
      have h1 : (nI td - nI dy).toInt = (td : Int) - dy := pk_sub_toInt (by omega) (by omega)
      intro q
      have h2 := Int32.lt_iff_toInt_lt.mp q
      rw [Int32.toInt_add, h1, show (0 : Int32).toInt = 0 from rfl, show (1 : Int32).toInt = 1 from rfl, Int.bmod_eq_of_le (by omega) (by omega)] at h2
      omega
    unfold ab_
    rw [if_neg this, show (td + 1 - dy + 29) / 30 = 0 from by omega]
    rfl
theorem ct_from {c : Nat → Bool} {m : Nat} : ∀ b, (∀ i, i < b → c i = decide (m ≤ i)) → ct_ c b = b - m := by
  intro b
  induction b with
  | zero => intro _; simp [ct_]
  | succ b ih =>
    intro h
    rw [ct_, ih (fun i hi => h i (by omega)), h b (by omega)]
    by_cases hm : m ≤ b
    · rw [decide_eq_true hm, if_pos rfl]; omega
    · rw [decide_eq_false hm, if_neg (by decide)]; omega
/-- accounts under way -/
theorem rp_u2 (c : rp1_ M x y T td N q p r) (htd : td ≤ 10000) (h27 : mm_I M y 27 = nI td) : ab_ (nI td) - ab_ (mm_I M p 1) - (if 0 < ab_ (nI td - mm_I M p 0 + 1) - ab_ (mm_I M p 1) then ab_ (nI td - mm_I M p 0 + 1) - ab_ (mm_I M p 1) else 0) = nI (ct_ (md_u2 M y q) ((td + 29) / 30)) := by
  have hb := c.2.2.2.2.2.2.2.1
  have hdy := c.2.2.2.2.2.2.2.2.2.2.1
  have hdy1 := c.2.2.2.2.2.2.2.2.2.1
  have hop := c.2.2.2.2.2.2.2.2.2.2.2.1
  rw [c.2.2.2.1.1, c.2.2.2.1.2.1, ab_n (by omega), ab_n (by omega), ab_s htd hdy, mx0_ (by omega) (by omega), pk_sub (by omega), pk_sub (by omega)]
  congr 1
  rw [ct_from (m := max ((r.2.1 + 29) / 30) ((td + 1 - r.1 + 29) / 30)) _ (fun i hi => ?_)]
  · omega
  · unfold md_u2
    rw [hb.1, hb.2.1, h27, nI_add]
    refine decide_eq_decide.mpr ?_
    constructor
    · rintro ⟨h1, h2⟩
      have h3 := ni_le h1 (by omega) (by omega)
      have h4 := ni_lt h2 (by omega) (by omega)
      omega
    · intro h
      exact ⟨nI_le (by omega) (by omega), nI_lt (by omega) (by omega)⟩
end PORT
theorem si_sm {h : Nat → Nat} : ∀ P, si_ (fun q => nI (h q)) P = nI (sm_ h P) := by
  intro P
  induction P with
  | zero => rfl
  | succ P ih => rw [si_, sm_, ih, nI_add]
theorem ct_congr {c e : Nat → Bool} : ∀ n, (∀ i, i < n → c i = e i) → ct_ c n = ct_ e n := by
  intro n
  induction n with
  | zero => intro _; rfl
  | succ n ih => intro h; rw [ct_, ct_, ih (fun i hi => h i (by omega)), h n (by omega)]
/-- when a paper is known -/
theorem rn_kd {M : mm_M} {x y P T td N i a k p : Nat} {pa : Nat → Nat} {r : pr_T} (c : rn1_ M x y P td i a k p pa) (d : rp1_ M x y T td N p (pa p) r) (htd : td ≤ 10000) {pq : Nat → Nat} (hpq : pq i = p) : kd_ M a (pa p) = md_ho M y pq i := by
  unfold kd_ md_ho
  obtain ⟨n, n1, n2, e⟩ := c.2.2.1.2.2.2
  rw [hpq, c.2.2.2.1.2.2.2.2.1, e, ab_n (by omega), d.2.2.2.1.1, d.2.2.2.2.2.2.2.1.1, show (29 : Int32) = nI 29 from rfl, nI_add, show (30 : Int32) = nI 30 from rfl, pk_div (by omega) (by decide) (by decide)]
/-- what home's tariff would have told -/
theorem rn_hg {M : mm_M} {x y P T td i a k p : Nat} {pa : Nat → Nat} {ta la : Nat → Nat} {tl : Nat → List ps_L} (ha : mm_sh M a = some (.inl 2)) (c : rn1_ M x y P td i a k p pa) (hp : P ≤ 8) (d : rT_ M x y T ta la tl) : ∀ n, n ≤ T → hg_ M ta la a n = md_hf M y (fun t => (tl t).length) (tn_ tl) (tm_ tl) i n := by
  intro n
  induction n with
  | zero => intro _; rfl
  | succ n ih =>
    intro hn
    obtain ⟨c1, c2, ⟨v1, v2, v3, v4⟩, ⟨e1, e2, e3, e4, e5, e6, e7, e8⟩, -⟩ := c
    rw [hg_, md_hf, ih (by omega), md_ft_t d.2.2.1 d.2.1 (by omega), e1, e2, e3, e4, e5, e8, d.2.2.2.2 n (by omega), fo_t d.1 d.2.1 (t := n) (by omega) (a := a) ⟨ha, rfl, rfl, rfl, rfl, rfl⟩]
    have hb := ms_nb v1 v2 (p := mm_I M a 0) ⟨p, by omega, by omega, c2.1⟩ v3
    unfold rg_ rf_
    rcases fq_nat (n0 := -1) (w := mm_I M a 1) hb (tl n) (d.2.1 n (by omega)).2 with ⟨-, h1, h2⟩ | ⟨k, hk, -, h1, h2⟩
    · rw [h1, h2, if_pos rfl, if_pos rfl]
    · rw [h1, h2, if_neg (nI_m2 (by omega)), if_neg (nI_m1 (by omega))]
