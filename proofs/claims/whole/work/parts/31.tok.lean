/-! tokens, the same for both: what stands behind a place of a text -/
def wn_ (f : Nat → Nat) : Nat → Nat
  | 0 => 0
  | k + 1 => 32 * wn_ f k + f k
theorem wn_lt (f : Nat → Nat) : ∀ m, (∀ i, i < m → f i ≤ 26) → wn_ f m < 32 ^ m
  | 0, _ => by rw [wn_]; decide
  | m + 1, h => by
    have h1 := wn_lt f m (fun i hi => h i (by omega))
    have h2 := h m (by omega)
    rw [wn_, Nat.pow_succ]
    omega
theorem p32_ : (32 : Nat) ^ 8 ≤ 2 ^ 63 := by decide
theorem wn_63 (f : Nat → Nat) (m : Nat) (h : ∀ i, i < m → f i ≤ 26) (hm : m ≤ 8) : wn_ f m < 2 ^ 63 := Nat.lt_of_lt_of_le (wn_lt f m h) (Nat.le_trans (Nat.pow_le_pow_right (by decide) hm) p32_)
theorem wn_inj (f g : Nat → Nat) : ∀ m m', (∀ i, i < m → 1 ≤ f i ∧ f i ≤ 26) → (∀ i, i < m' → 1 ≤ g i ∧ g i ≤ 26) → wn_ f m = wn_ g m' → m = m' ∧ ∀ i, i < m → f i = g i
  | 0, 0, _, _, _ => ⟨rfl, fun i h => absurd h (by omega)⟩
  | 0, m' + 1, _, hg, h => by
    have := hg m' (by omega)
    rw [wn_, wn_] at h
    omega
  | m + 1, 0, hf, _, h => by
    have := hf m (by omega)
    rw [wn_, wn_] at h
    omega
  | m + 1, m' + 1, hf, hg, h => by
    have h1 := hf m (by omega)
    have h2 := hg m' (by omega)
    rw [wn_, wn_] at h
    obtain ⟨e, h3⟩ := wn_inj f g m m' (fun i hi => hf i (by omega)) (fun i hi => hg i (by omega)) (by omega)
    subst e
    refine ⟨rfl, fun i hi => ?_⟩
    rcases Nat.lt_succ_iff_lt_or_eq.mp hi with h4 | h4
    · exact h3 i h4
    · subst h4; omega
theorem lt_c : ∀ x, x < 123 → 97 ≤ x → (nI x - 97 + 1).toInt64 = lN (x - 96) ∧ (nI x).toInt.toNat = x := by decide +kernel
theorem lt_nat {v : Int32} (h : lt_ v) : ∃ x, 97 ≤ x ∧ x < 123 ∧ v = nI x := by
  rcases sw_of v 122 (by decide) with ⟨x, hx, e⟩ | hO
  · subst e
    have h1 : nI 97 ≤ nI x := h.1
    exact ⟨x, (nI_leI (by decide) (by omega)).mp h1, by omega, rfl⟩
  · have h1 := Int32.le_iff_toInt_le.mp h.1
    have h2 := Int32.le_iff_toInt_le.mp h.2
    have e1 : (97 : Int32).toInt = 97 := by decide
    have e2 : (122 : Int32).toInt = 122 := by decide
    rw [e1] at h1; rw [e2] at h2
    omega
def dv_ (b : Nat → Int32) (q i : Nat) : Nat := (b (q + i)).toInt.toNat - 96
theorem dv_b {b : Nat → Int32} {q i : Nat} (h : lt_ (b (q + i))) : 1 ≤ dv_ b q i ∧ dv_ b q i ≤ 26 ∧ (b (q + i) - 97 + 1).toInt64 = lN (dv_ b q i) ∧ b (q + i) = nI (dv_ b q i + 96) := by
  obtain ⟨x, h1, h2, h3⟩ := lt_nat h
  have h4 := lt_c x h2 h1
  unfold dv_
  rw [h3, h4.2]
  exact ⟨by omega, by omega, h4.1, by rw [show x - 96 + 96 = x by omega]⟩
theorem wv_wn (b : Nat → Int32) (q : Nat) : ∀ m, (∀ i, i < m → lt_ (b (q + i))) → wv_ b q m = lN (wn_ (dv_ b q) m)
  | 0, _ => rfl
  | m + 1, h => by
    rw [wv_, wn_, wv_wn b q m (fun i hi => h i (by omega)), (dv_b (h m (by omega))).2.2.1, show (32 : Int64) = lN 32 from rfl, lN_mul, lN_add]
theorem lN_inj {a b : Nat} (ha : a < 2 ^ 63) (hb : b < 2 ^ 63) (h : lN a = lN b) : a = b := by
  have h1 := congrArg Int64.toInt h
  unfold lN at h1
  rw [lg_ofNat_toInt ha, lg_ofNat_toInt hb] at h1
  omega
/-- the word between q and e is the text k -/
def wd_ (b : Nat → Int32) (q e k : Nat) : Prop := e - q = mm_ln k ∧ ∀ i, i < mm_ln k → b (q + i) = mm_ch k i
theorem ch_lt : ∀ k, k < 8 → ∀ i, i < mm_ln k → lt_ (mm_ch k i) := by unfold lt_; decide +kernel
theorem ln_8 : ∀ k, k < 8 → mm_ln k ≤ 8 := by decide +kernel
theorem wo_wn {k : Nat} (hk : k < 8) : wo_ k (mm_ln k) = lN (wn_ (dv_ (mm_ch k) 0) (mm_ln k)) := wv_wn (mm_ch k) 0 (mm_ln k) (fun i hi => by rw [Nat.zero_add]; exact ch_lt k hk i hi)
theorem wv_wd1 {b : Nat → Int32} {q e k : Nat} (he : e - q ≤ 8) (hl : ∀ j, q ≤ j → j < e → lt_ (b j)) (hk : k < 8) (h : lN (wn_ (dv_ b q) (e - q)) = lN (wn_ (dv_ (mm_ch k) 0) (mm_ln k))) : wd_ b q e k := by
  have g1 : ∀ i, i < e - q → lt_ (b (q + i)) := fun i hi => hl (q + i) (by omega) (by omega)
  have g2 : ∀ i, i < mm_ln k → lt_ (mm_ch k (0 + i)) := fun i hi => by rw [Nat.zero_add]; exact ch_lt k hk i hi
  have p1 := wn_63 (dv_ b q) (e - q) (fun i hi => (dv_b (g1 i hi)).2.1) he
  have p2 := wn_63 (dv_ (mm_ch k) 0) (mm_ln k) (fun i hi => (dv_b (g2 i hi)).2.1) (ln_8 k hk)
  obtain ⟨e1, e2⟩ := wn_inj (dv_ b q) (dv_ (mm_ch k) 0) (e - q) (mm_ln k) (fun i hi => ⟨(dv_b (g1 i hi)).1, (dv_b (g1 i hi)).2.1⟩) (fun i hi => ⟨(dv_b (g2 i hi)).1, (dv_b (g2 i hi)).2.1⟩) (lN_inj p1 p2 h)
  refine ⟨e1, fun i hi => ?_⟩
  have a1 := (dv_b (g1 i (by omega))).2.2.2
  have a2 := (dv_b (g2 i hi)).2.2.2
  rw [e2 i (by omega)] at a1
  exact a1.trans (a2.symm.trans (by rw [Nat.zero_add]))
theorem wv_wd2 {b : Nat → Int32} {q e k : Nat} (h : wd_ b q e k) : wn_ (dv_ b q) (e - q) = wn_ (dv_ (mm_ch k) 0) (mm_ln k) := by
  obtain ⟨e1, e2⟩ := h
  have e3 : ∀ m, m ≤ mm_ln k → wn_ (dv_ b q) m = wn_ (dv_ (mm_ch k) 0) m := by
    intro m
    induction m with
    | zero => intro _; rw [wn_, wn_]
    | succ m ih =>
      intro hm
      have e4 : dv_ b q m = dv_ (mm_ch k) 0 m := by unfold dv_; rw [e2 m (by omega), Nat.zero_add]
      rw [wn_, wn_, ih (by omega), e4]
  rw [e1]
  exact e3 _ (Nat.le_refl _)
theorem wv_wd {b : Nat → Int32} {q e k : Nat} (he : e - q ≤ 8) (hl : ∀ j, q ≤ j → j < e → lt_ (b j)) (hk : k < 8) : wv_ b q (e - q) = wo_ k (mm_ln k) ↔ wd_ b q e k := by
  have w1 : wv_ b q (e - q) = lN (wn_ (dv_ b q) (e - q)) := wv_wn b q (e - q) (fun i hi => hl (q + i) (by omega) (by omega))
  constructor
  · intro h
    exact wv_wd1 he hl hk (w1.symm.trans (h.trans (wo_wn hk)))
  · intro h
    exact w1.trans ((congrArg lN (wv_wd2 h)).trans (wo_wn hk).symm)
theorem wd_un {b : Nat → Int32} {q e k j : Nat} (he : e - q ≤ 8) (hl : ∀ j, q ≤ j → j < e → lt_ (b j)) (hk : k < 8) (hj : j < 8) (h1 : wd_ b q e k) (h2 : wd_ b q e j) : k = j := by
  have h3 := ((wv_wd he hl hk).mpr h1).symm.trans ((wv_wd he hl hj).mpr h2)
  have h4 : ∀ k, k < 8 → ∀ j, j < 8 → wo_ k (mm_ln k) = wo_ j (mm_ln j) → k = j := by decide +kernel
  exact h4 k hk j hj h3
/-- the token behind the place p of the text b of n bytes: its kind, its place, its number, the place behind it -/
def tz_ (b : Nat → Int32) (n p : Nat) (k l v : Int32) (p' : Nat) : Prop := ∃ q, p ≤ q ∧ q ≤ n ∧ (∀ j, p ≤ j → j < q → b j = 32) ∧ ¬ b q = 32 ∧ l = nI q ∧
  ((q = n ∧ k = 0 ∧ p' = n) ∨
   (q < n ∧ ∃ e, q < e ∧ e ≤ n ∧ (∀ j, q ≤ j → j < e → lt_ (b j)) ∧ ¬ lt_ (b e) ∧ p' = e ∧ ((8 < e - q ∧ k = 1) ∨ (e - q ≤ 8 ∧ ∃ j, j < 8 ∧ wd_ b q e j ∧ k = nI (4 + j)) ∨ (e - q ≤ 8 ∧ (∀ j, j < 8 → ¬ wd_ b q e j) ∧ k = 3))) ∨
   (q < n ∧ ¬ lt_ (b q) ∧ ∃ e, q < e ∧ e ≤ n ∧ (∀ j, q ≤ j → j < e → dg_ (b j)) ∧ ¬ dg_ (b e) ∧ p' = e ∧ ((3 < e - q ∧ k = 1) ∨ (e - q ≤ 3 ∧ k = 2 ∧ v = nv_ b q (e - q)))) ∨
   (q < n ∧ ¬ lt_ (b q) ∧ ¬ dg_ (b q) ∧ sg_ (b q) ∧ k = b q ∧ p' = q + 1) ∨
   (q < n ∧ ¬ lt_ (b q) ∧ ¬ dg_ (b q) ∧ ¬ sg_ (b q) ∧ k = 1))
/-- the reference stands at such a token -/
def tkm_ (M : mm_M) (y : Nat) (k l v : Int32) : Prop := mm_I M y 10 = l ∧
  ((k = 0 ∧ mm_I M y 9 = 1) ∨ (k = 1 ∧ mm_I M y 9 = 0) ∨ (k = 2 ∧ mm_I M y 9 = 3 ∧ mm_I M y 12 = v) ∨
   ((∃ i, i < 9 ∧ k = nI (3 + i)) ∧ mm_I M y 9 = 2 ∧ ∀ j, j < 8 → (mm_L M y 13 = wo_ j (mm_ln j) ↔ k = nI (4 + j))) ∨ (sg_ k ∧ mm_I M y 9 = 4 ∧ mm_I M y 11 = k))
theorem fst_un {P : Nat → Prop} {p q r : Nat} (h1 : p ≤ q) (h2 : ∀ j, p ≤ j → j < q → P j) (h3 : ¬ P q) (g1 : p ≤ r) (g2 : ∀ j, p ≤ j → j < r → P j) (g3 : ¬ P r) : q = r := by
  rcases Nat.lt_trichotomy q r with h | h | h
  · exact absurd (g2 q h1 h) h3
  · exact h
  · exact absurd (h2 r g1 h) g3
theorem k_kinds : ∀ i, i < 9 → ∀ j, j < 8 → (nI (3 + i) = nI (4 + j) ↔ i = j + 1) := by decide +kernel
theorem k_notsg : ∀ i, i < 12 → ¬ sg_ (nI i) := by unfold sg_; decide +kernel
theorem md_and255 (v : Int32) : 0 ≤ (v &&& 255).toInt ∧ (v &&& 255).toInt < 256 := by
  rw [show (v &&& 255).toInt = (v &&& 255).toBitVec.toInt from rfl, Int32.toBitVec_and]
  have h1 : (v.toBitVec &&& (255 : Int32).toBitVec).toNat ≤ 255 := by
    rw [BitVec.toNat_and]
    exact Nat.and_le_right
  rw [BitVec.toInt_eq_toNat_of_lt (by omega)]
  omega
theorem by_n {M : mm_M} {y n q : Nat} (hq : q ≤ n) (h : md_by M y n q = -1) : q = n := by
  unfold md_by at h
  by_cases hn : q < n
  · rw [if_pos hn] at h
    exfalso
    have h2 : (mm_I M (y + 2) q &&& 255).toInt = (-1 : Int32).toInt := by rw [h]
    have h3 := md_and255 (mm_I M (y + 2) q)
    have h4 : (-1 : Int32).toInt = -1 := by decide
    omega
  · omega

theorem kt_next {G : mm_G} {d : Nat} {Q : Option Value → mm_M → Prop} {M : mm_M} {y : Nat} (n p : Nat) (hY : mdl_ M y) (hn : mm_I M y 7 = nI n) (hn3 : n ≤ 300) (hp : mm_I M y 8 = nI p) (hpn : p ≤ n) {k l v : Int32} {p' : Nat} (ht : tz_ (md_by M y n) n p k l v p')
    (hQ : ∀ M', tkf_ M M' y → tkm_ M' y k l v → (¬ k = 1 → mm_I M' y 8 = nI p') → Q none M') : ma_ G jX12_next (d + 1) 0 0 [.ref y] M Q := by
  obtain ⟨q, hq1, hq2, hq3, hq4, hl, hc⟩ := ht
  have un : ∀ r, p ≤ r → (∀ j, p ≤ j → j < r → md_by M y n j = 32) → ¬ md_by M y n r = 32 → q = r := fun r a b c => fst_un (P := fun j => md_by M y n j = 32) hq1 hq3 hq4 a b c
  have bn : md_by M y n n = -1 := md_byn (Nat.le_refl n)
  have n1 : ¬ lt_ (-1) := by unfold lt_; decide
  have n2 : ¬ dg_ (-1) := by unfold dg_; decide
  have n3 : ¬ sg_ (-1) := by unfold sg_; decide
  refine k_X12_next n p hY hn hn3 hp hpn ?_ ?_ ?_ ?_ ?_
  · intro r M' a1 a2 a3 a4 hf h10 hb h9 h8
    obtain rfl := un r a1 a3 a4
    have hqn := by_n hq2 hb
    rcases hc with ⟨-, rfl, rfl⟩ | ⟨g, -⟩ | ⟨g, -⟩ | ⟨g, -⟩ | ⟨g, -⟩
    · exact hQ M' hf ⟨h10.trans hl.symm, Or.inl ⟨rfl, h9⟩⟩ (fun _ => by rw [h8, hqn])
    all_goals exact absurd g (by omega)
  · intro r M' a1 a2 a3 a4 hf h10 e e1 e2 e3 e4 h9 h8 h13
    obtain rfl := un r a1 a3 a4
    have hql := e3 q (Nat.le_refl _) e1
    rcases hc with ⟨g, -⟩ | ⟨g, e', f1, f2, f3, f4, rfl, f5⟩ | ⟨g, g2, -⟩ | ⟨g, g2, -⟩ | ⟨g, g2, -⟩
    · subst g; rw [bn] at hql; exact absurd hql n1
    · obtain rfl : e = p' := fst_un (P := fun j => lt_ (md_by M y n j)) (Nat.le_of_lt e1) e3 e4 (Nat.le_of_lt f1) f3 f4
      rcases f5 with ⟨f6, rfl⟩ | ⟨f6, j, hj, hw, rfl⟩ | ⟨f6, hw, rfl⟩
      · exact hQ M' hf ⟨h10.trans hl.symm, Or.inr (Or.inl ⟨rfl, h9.trans (if_neg (by omega))⟩)⟩ (fun _ => h8)
      · rw [Nat.min_eq_left f6] at h13
        refine hQ M' hf ⟨h10.trans hl.symm, Or.inr (Or.inr (Or.inr (Or.inl ⟨⟨j + 1, by omega, by rw [show 3 + (j + 1) = 4 + j by omega]⟩, h9.trans (if_pos (by omega)), fun i hi => ?_⟩)))⟩ (fun _ => h8)
        rw [h13, wv_wd f6 e3 hi]
        constructor
        · intro hw2; rw [wd_un f6 e3 hj hi hw hw2]
        · intro h
          have := (k_kinds (j + 1) (by omega) i hi).mp (by rw [← h, show 3 + (j + 1) = 4 + j by omega])
          obtain rfl : j = i := by omega
          exact hw
      · rw [Nat.min_eq_left f6] at h13
        refine hQ M' hf ⟨h10.trans hl.symm, Or.inr (Or.inr (Or.inr (Or.inl ⟨⟨0, by omega, rfl⟩, h9.trans (if_pos (by omega)), fun i hi => ?_⟩)))⟩ (fun _ => h8)
        rw [h13, wv_wd f6 e3 hi]
        constructor
        · intro hw2; exact absurd hw2 (hw i hi)
        · intro h
          have := (k_kinds 0 (by omega) i hi).mp h
          omega
    all_goals exact absurd hql g2
  · intro r M' a1 a2 a3 a4 hf h10 hnl e e1 e2 e3 e4 h9 h8 h12
    obtain rfl := un r a1 a3 a4
    have hql := e3 q (Nat.le_refl _) e1
    rcases hc with ⟨g, -⟩ | ⟨g, e', f1, f2, f3, f4, rfl, f5⟩ | ⟨g, g2, e', f1, f2, f3, f4, rfl, f5⟩ | ⟨g, g2, g3, -⟩ | ⟨g, g2, g3, -⟩
    · subst g; rw [bn] at hql; exact absurd hql n2
    · exact absurd (f3 q (Nat.le_refl _) f1) hnl
    · obtain rfl : e = p' := fst_un (P := fun j => dg_ (md_by M y n j)) (Nat.le_of_lt e1) e3 e4 (Nat.le_of_lt f1) f3 f4
      rcases f5 with ⟨f6, rfl⟩ | ⟨f6, rfl, rfl⟩
      · exact hQ M' hf ⟨h10.trans hl.symm, Or.inr (Or.inl ⟨rfl, h9.trans (if_neg (by omega))⟩)⟩ (fun _ => h8)
      · rw [Nat.min_eq_left f6] at h12
        exact hQ M' hf ⟨h10.trans hl.symm, Or.inr (Or.inr (Or.inl ⟨rfl, h9.trans (if_pos (by omega)), h12⟩))⟩ (fun _ => h8)
    all_goals exact absurd hql g3
  · intro r M' a1 a2 a3 a4 hf h10 hnl hnd hs h9 h11 h8
    obtain rfl := un r a1 a3 a4
    rcases hc with ⟨g, -⟩ | ⟨g, e', f1, f2, f3, -⟩ | ⟨g, g2, e', f1, f2, f3, -⟩ | ⟨g, g2, g3, g4, rfl, rfl⟩ | ⟨g, g2, g3, g4, -⟩
    · subst g; rw [bn] at hs; exact absurd hs n3
    · exact absurd (f3 q (Nat.le_refl _) f1) hnl
    · exact absurd (f3 q (Nat.le_refl _) f1) hnd
    · exact hQ M' hf ⟨h10.trans hl.symm, Or.inr (Or.inr (Or.inr (Or.inr ⟨hs, h9, h11⟩)))⟩ (fun _ => h8)
    · exact absurd hs g4
  · intro r M' a1 a2 a3 a4 hf h10 hb hnl hnd hs h9
    obtain rfl := un r a1 a3 a4
    rcases hc with ⟨g, -⟩ | ⟨g, e', f1, f2, f3, -⟩ | ⟨g, g2, e', f1, f2, f3, -⟩ | ⟨g, g2, g3, g4, -⟩ | ⟨g, g2, g3, g4, rfl⟩
    · subst g; exact absurd bn hb
    · exact absurd (f3 q (Nat.le_refl _) f1) hnl
    · exact absurd (f3 q (Nat.le_refl _) f1) hnd
    · exact absurd g4 hs
    · exact hQ M' hf ⟨h10.trans hl.symm, Or.inr (Or.inl ⟨rfl, h9⟩)⟩ (fun h => absurd rfl h)
theorem sg_k {k : Int32} (h : sg_ k) : ¬ k = 0 ∧ ¬ k = 1 ∧ ¬ k = 2 ∧ ∀ i, i < 9 → ¬ k = nI (3 + i) := by
  refine ⟨fun e => ?_, fun e => ?_, fun e => ?_, fun i hi e => ?_⟩ <;> subst e
  · exact absurd h (by unfold sg_; decide)
  · exact absurd h (by unfold sg_; decide)
  · exact absurd h (by unfold sg_; decide)
  · exact k_notsg (3 + i) (by omega) h
theorem kt_is {G : mm_G} {d : Nat} {Q : Option Value → mm_M → Prop} {M : mm_M} {y : Nat} {k l v : Int32} (c : Int32) (hY : mdl_ M y) (hc : sg_ c) (ht : tkm_ M y k l v) (h1 : k = c → Q (some (.int 1)) M) (h0 : ¬ k = c → Q (some (.int 0)) M) : ma_ G jX12_is d 0 0 [.ref y, .int c] M Q := by
  refine k_X12_is c hY (fun a b => h1 ?_) (fun a => h0 (fun e => ?_))
  · rcases ht.2 with ⟨-, h⟩ | ⟨-, h⟩ | ⟨-, h, -⟩ | ⟨-, h, -⟩ | ⟨-, -, h⟩
    · rw [a] at h; exact absurd h (by decide)
    · rw [a] at h; exact absurd h (by decide)
    · rw [a] at h; exact absurd h (by decide)
    · rw [a] at h; exact absurd h (by decide)
    · exact h.symm.trans b
  · subst e
    obtain ⟨s1, s2, s3, s4⟩ := sg_k hc
    rcases ht.2 with ⟨h, -⟩ | ⟨h, -⟩ | ⟨h, -⟩ | ⟨⟨i, hi, h⟩, -⟩ | ⟨-, h, h2⟩
    · exact s1 h
    · exact s2 h
    · exact s3 h
    · exact s4 i hi h
    · exact a ⟨h, h2⟩
theorem kt_isW {G : mm_G} {d : Nat} {Q : Option Value → mm_M → Prop} {M : mm_M} {y : Nat} {k l v : Int32} (j f : Nat) (hcs : G.2.2.2.1 3 = .int 1) (hsf : G.2.2.2.1 6 = va_rn f) (hj : j < 8) (hY : mdl_ M y) (ht : tkm_ M y k l v) (h1 : k = nI (4 + j) → Q (some (.int 1)) M) (h0 : ¬ k = nI (4 + j) → Q (some (.int 0)) M) : ma_ G jX12_isWord (d + 5) 0 0 [.ref y, .ref (G.2.2.2.2.1 j)] M Q := by
  have kk : ∀ j, j < 8 → ¬ nI (4 + j) = 0 ∧ ¬ nI (4 + j) = 1 ∧ ¬ nI (4 + j) = 2 ∧ ¬ sg_ (nI (4 + j)) := by unfold sg_; decide +kernel
  refine k_X12_isWord j f hY hcs hsf (by omega) (fun a b => h1 ?_) (fun a => h0 (fun e => ?_))
  · rcases ht.2 with ⟨-, h⟩ | ⟨-, h⟩ | ⟨-, h, -⟩ | ⟨-, -, h⟩ | ⟨-, h, -⟩
    · rw [a] at h; exact absurd h (by decide)
    · rw [a] at h; exact absurd h (by decide)
    · rw [a] at h; exact absurd h (by decide)
    · exact (h j hj).mp b
    · rw [a] at h; exact absurd h (by decide)
  · subst e
    obtain ⟨s1, s2, s3, s4⟩ := kk j hj
    rcases ht.2 with ⟨h, -⟩ | ⟨h, -⟩ | ⟨h, -⟩ | ⟨-, h2, h⟩ | ⟨h, -⟩
    · exact s1 h
    · exact s2 h
    · exact s3 h
    · exact a ⟨h2, (h j hj).mpr rfl⟩
    · exact s4 h
/-- the reference's two numbers of a fault -/
def stp_ (M : mm_M) (y : Nat) (c l : Int32) : mm_M := mm_sI (mm_sI M (y + 1) 6 c) (y + 1) 7 l
/-- what a name's place holds: 0 a name, else the fault -/
def pn_ (k : Int32) : Int32 := if k = 3 then 2 else if k = 8 ∨ k = 9 ∨ k = 10 ∨ k = 11 then 0 else 1

theorem k_X12_stop {G : mm_G} {d : Nat} {Q : Option Value → mm_M → Prop} {M : mm_M} {y : Nat} (c : Int32) (hY : mdl_ M y) (hQ : Q (some (.ref (y + 1))) (stp_ M y c (mm_I M y 10))) : ma_ G jX12_stop d 0 0 [.ref y, .int c] M Q := by
  refine ma_of [some (.ref y), some (.int c)] (by decide) rfl (Nat.le_of_ble_eq_true rfl) ?_
  refine wa_aload_n dX12_stop_0 rfl rfl ?_
  refine wa_getR (q := (RX12, TX12, 50)) (ci := 12) (k := 4) dX12_stop_1 rfl (by decide) wf_X12_16 hY.1 rfl (md_r4 hY) ?_
  refine wa_iload_n dX12_stop_4 rfl ?_
  refine wa_putN (q := (RX11, TX11, 8)) (ci := 11) (host := "ConsulDeskModel") (k := 6) dX12_stop_5 rfl (by decide) (by decide) rfl (md_s4 hY) rfl ?_
  refine wa_aload_n dX12_stop_8 rfl rfl ?_
  refine wa_getR (q := (RX12, TX12, 50)) (ci := 12) (k := 4) dX12_stop_9 rfl (by decide) wf_X12_16 hY.1 rfl (md_r4 hY) ?_
  refine wa_aload_n dX12_stop_12 rfl rfl ?_
  
  refine wa_getI (q := (RX12, TX12, 50)) (ci := 12) (k := 10) dX12_stop_13 rfl (by decide) wf_X12_131 hY.1 rfl ?_
  refine wa_putN (q := (RX11, TX11, 8)) (ci := 11) (host := "ConsulDeskModel") (k := 7) dX12_stop_16 rfl (by decide) (by decide) rfl (md_s4 hY) rfl ?_
  refine wa_aload_n dX12_stop_19 rfl rfl ?_
  refine wa_getR (q := (RX12, TX12, 50)) (ci := 12) (k := 4) dX12_stop_20 rfl (by decide) wf_X12_16 hY.1 rfl (md_r4 hY) ?_
  exact wa_aret dX12_stop_23 rfl (Or.inl ⟨_, rfl⟩) rfl (by rw [show mm_I (mm_put M (y + 1) 6 (.int c)) y 10 = mm_I M y 10 from mI_na _ _ _ _ _ _ (by omega)]; exact hQ)

theorem pn_s {M : mm_M} {y : Nat} {k l v : Int32} (h : ¬ mm_I M y 9 = 2) (ht : tkm_ M y k l v) : (if k = 3 then (2 : Int32) else if k = 8 ∨ k = 9 ∨ k = 10 ∨ k = 11 then 0 else 1) = 1 := by
  rcases ht.2 with ⟨rfl, -⟩ | ⟨rfl, -⟩ | ⟨rfl, -⟩ | ⟨-, h2, -⟩ | ⟨hs, -⟩
  · decide
  · decide
  · decide
  · exact absurd h2 h
  · obtain ⟨-, -, -, s4⟩ := sg_k hs
    rw [if_neg (show ¬ k = 3 from s4 0 (by decide)), if_neg]
    rintro (e | e | e | e)
    · exact s4 5 (by decide) e
    · exact s4 6 (by decide) e
    · exact s4 7 (by decide) e
    · exact s4 8 (by decide) e
theorem pn_o {M : mm_M} {y : Nat} {k l v : Int32} (h : mm_I M y 9 = 2) (ht : tkm_ M y k l v) (h0 : ¬ k = nI (4 + 0)) (h1 : ¬ k = nI (4 + 1)) (h2 : ¬ k = nI (4 + 2)) (h3 : ¬ k = nI (4 + 3)) (h4 : ¬ k = nI (4 + 4)) (h5 : ¬ k = nI (4 + 5)) (h6 : ¬ k = nI (4 + 6)) (h7 : ¬ k = nI (4 + 7)) : pn_ k = 2 := by
  rcases ht.2 with ⟨-, h9⟩ | ⟨-, h9⟩ | ⟨-, h9, -⟩ | ⟨⟨i, hi, e⟩, -, -⟩ | ⟨-, h9, -⟩
  · rw [h] at h9; exact absurd h9 (by decide)
  · rw [h] at h9; exact absurd h9 (by decide)
  · rw [h] at h9; exact absurd h9 (by decide)
  · subst e
    have : i = 0 := by
      rcases (by omega : i = 0 ∨ i = 1 ∨ i = 2 ∨ i = 3 ∨ i = 4 ∨ i = 5 ∨ i = 6 ∨ i = 7 ∨ i = 8) with r | r | r | r | r | r | r | r | r
      · exact r
      · subst r; exact absurd rfl h0
      · subst r; exact absurd rfl h1
      · subst r; exact absurd rfl h2
      · subst r; exact absurd rfl h3
      · subst r; exact absurd rfl h4
      · subst r; exact absurd rfl h5
      · subst r; exact absurd rfl h6
      · subst r; exact absurd rfl h7
    subst this
    decide
  · rw [h] at h9; exact absurd h9 (by decide)

theorem k_X12_nameHere {G : mm_G} {d : Nat} {Q : Option Value → mm_M → Prop} {M : mm_M} {y : Nat} {k l v : Int32} (f : Nat) (hcs : G.2.2.2.1 3 = .int 1) (hsf : G.2.2.2.1 6 = va_rn f) (hY : mdl_ M y) (ht : tkm_ M y k l v) (hF : ∀ c : Int32, pn_ k = c → ¬ c = 0 → Q (some (.retAddr (y + 1))) (stp_ M y c l)) (hO : pn_ k = 0 → Q (some (.int (k - 8))) M) : mx_ G jX12_nameHere (d + 6) 0 0 [.ref y] M Q := by
  refine mx_of [some (.ref y), none] (by decide) rfl (Nat.le_of_ble_eq_true rfl) ?_
  refine wa_aload_n dX12_nameHere_0 rfl rfl ?_
  refine wa_getI (q := (RX12, TX12, 50)) (ci := 12) (k := 9) dX12_nameHere_1 rfl (by decide) wf_X12_157 hY.1 rfl ?_
  refine wa_iconst (v := 2) dX12_nameHere_4 (by decide) ?_
  refine wa_icmp_ne (tgt := 44) dX12_nameHere_5 (by decide) (fun hT5 => ?_) (fun hF5 => ?_)
  · refine wa_aload_n dX12_nameHere_44 rfl rfl ?_
    refine wa_iconst (v := 1) dX12_nameHere_45 (by decide) ?_
    refine wa_callV (q := (RX12, TX12, 50)) (As := [.int 1]) dX12_nameHere_46 lk_X12_192 rfl rfl hY.1 rfl rfl (Nat.le_of_ble_eq_true rfl) (Nat.le_of_eq (Nat.zero_add _)) (Nat.le_of_eq (Nat.zero_add _)) (k_X12_stop 1 hY ?_)
    exact wx_throw dX12_nameHere_49 wd_X12_nameHere (by decide) (by rw [ht.1]; exact hF 1 (by unfold pn_; first | (subst hk0; decide) | (subst hk1; decide) | (subst hk2; decide) | (subst hk3; decide) | exact pn_s hT5 ht) (by decide))
  · refine wa_aload_n dX12_nameHere_8 rfl rfl ?_
    refine wa_ldcS (k := 0) (tx := "fee") dX12_nameHere_9 (by decide) ?_
    refine wa_callV (q := (RX12, TX12, 50)) (As := [.ref (G.2.2.2.2.1 0)]) dX12_nameHere_11 lk_X12_182 rfl rfl hY.1 rfl rfl (Nat.le_of_ble_eq_true rfl) (Nat.le_of_eq (Nat.zero_add _)) (Nat.le_of_eq (Nat.zero_add _)) (kt_isW 0 f hcs hsf (by decide) hY ht (fun hk0 => ?_) (fun hk0 => ?_))
    · refine wa_if_ne (tgt := 44) dX12_nameHere_14 (by decide) (fun _ => ?_) (fun h9 => absurd h9 (by decide))
      refine wa_aload_n dX12_nameHere_44 rfl rfl ?_
      refine wa_iconst (v := 1) dX12_nameHere_45 (by decide) ?_
      refine wa_callV (q := (RX12, TX12, 50)) (As := [.int 1]) dX12_nameHere_46 lk_X12_192 rfl rfl hY.1 rfl rfl (Nat.le_of_ble_eq_true rfl) (Nat.le_of_eq (Nat.zero_add _)) (Nat.le_of_eq (Nat.zero_add _)) (k_X12_stop 1 hY ?_)
      exact wx_throw dX12_nameHere_49 wd_X12_nameHere (by decide) (by rw [ht.1]; exact hF 1 (by unfold pn_; first | (subst hk0; decide) | (subst hk1; decide) | (subst hk2; decide) | (subst hk3; decide) | exact pn_s hT5 ht) (by decide))
    · refine wa_if_ne (tgt := 44) dX12_nameHere_14 (by decide) (fun h9 => absurd h9 (by decide)) (fun _ => ?_)
      refine wa_aload_n dX12_nameHere_17 rfl rfl ?_
      refine wa_ldcS (k := 1) (tx := "when") dX12_nameHere_18 (by decide) ?_
      refine wa_callV (q := (RX12, TX12, 50)) (As := [.ref (G.2.2.2.2.1 1)]) dX12_nameHere_20 lk_X12_182 rfl rfl hY.1 rfl rfl (Nat.le_of_ble_eq_true rfl) (Nat.le_of_eq (Nat.zero_add _)) (Nat.le_of_eq (Nat.zero_add _)) (kt_isW 1 f hcs hsf (by decide) hY ht (fun hk1 => ?_) (fun hk1 => ?_))
      · refine wa_if_ne (tgt := 44) dX12_nameHere_23 (by decide) (fun _ => ?_) (fun h9 => absurd h9 (by decide))
        refine wa_aload_n dX12_nameHere_44 rfl rfl ?_
        refine wa_iconst (v := 1) dX12_nameHere_45 (by decide) ?_
        refine wa_callV (q := (RX12, TX12, 50)) (As := [.int 1]) dX12_nameHere_46 lk_X12_192 rfl rfl hY.1 rfl rfl (Nat.le_of_ble_eq_true rfl) (Nat.le_of_eq (Nat.zero_add _)) (Nat.le_of_eq (Nat.zero_add _)) (k_X12_stop 1 hY ?_)
        exact wx_throw dX12_nameHere_49 wd_X12_nameHere (by decide) (by rw [ht.1]; exact hF 1 (by unfold pn_; first | (subst hk0; decide) | (subst hk1; decide) | (subst hk2; decide) | (subst hk3; decide) | exact pn_s hT5 ht) (by decide))
      · refine wa_if_ne (tgt := 44) dX12_nameHere_23 (by decide) (fun h9 => absurd h9 (by decide)) (fun _ => ?_)
        refine wa_aload_n dX12_nameHere_26 rfl rfl ?_
        refine wa_ldcS (k := 2) (tx := "and") dX12_nameHere_27 (by decide) ?_
        refine wa_callV (q := (RX12, TX12, 50)) (As := [.ref (G.2.2.2.2.1 2)]) dX12_nameHere_29 lk_X12_182 rfl rfl hY.1 rfl rfl (Nat.le_of_ble_eq_true rfl) (Nat.le_of_eq (Nat.zero_add _)) (Nat.le_of_eq (Nat.zero_add _)) (kt_isW 2 f hcs hsf (by decide) hY ht (fun hk2 => ?_) (fun hk2 => ?_))
        · refine wa_if_ne (tgt := 44) dX12_nameHere_32 (by decide) (fun _ => ?_) (fun h9 => absurd h9 (by decide))
          refine wa_aload_n dX12_nameHere_44 rfl rfl ?_
          refine wa_iconst (v := 1) dX12_nameHere_45 (by decide) ?_
          refine wa_callV (q := (RX12, TX12, 50)) (As := [.int 1]) dX12_nameHere_46 lk_X12_192 rfl rfl hY.1 rfl rfl (Nat.le_of_ble_eq_true rfl) (Nat.le_of_eq (Nat.zero_add _)) (Nat.le_of_eq (Nat.zero_add _)) (k_X12_stop 1 hY ?_)
          exact wx_throw dX12_nameHere_49 wd_X12_nameHere (by decide) (by rw [ht.1]; exact hF 1 (by unfold pn_; first | (subst hk0; decide) | (subst hk1; decide) | (subst hk2; decide) | (subst hk3; decide) | exact pn_s hT5 ht) (by decide))
        · refine wa_if_ne (tgt := 44) dX12_nameHere_32 (by decide) (fun h9 => absurd h9 (by decide)) (fun _ => ?_)
          refine wa_aload_n dX12_nameHere_35 rfl rfl ?_
          refine wa_ldcS (k := 3) (tx := "is") dX12_nameHere_36 (by decide) ?_
          refine wa_callV (q := (RX12, TX12, 50)) (As := [.ref (G.2.2.2.2.1 3)]) dX12_nameHere_38 lk_X12_182 rfl rfl hY.1 rfl rfl (Nat.le_of_ble_eq_true rfl) (Nat.le_of_eq (Nat.zero_add _)) (Nat.le_of_eq (Nat.zero_add _)) (kt_isW 3 f hcs hsf (by decide) hY ht (fun hk3 => ?_) (fun hk3 => ?_))
          · refine wa_if_eq (tgt := 50) dX12_nameHere_41 (by decide) (fun h9 => absurd h9 (by decide)) (fun _ => ?_)
            refine wa_aload_n dX12_nameHere_44 rfl rfl ?_
            refine wa_iconst (v := 1) dX12_nameHere_45 (by decide) ?_
            refine wa_callV (q := (RX12, TX12, 50)) (As := [.int 1]) dX12_nameHere_46 lk_X12_192 rfl rfl hY.1 rfl rfl (Nat.le_of_ble_eq_true rfl) (Nat.le_of_eq (Nat.zero_add _)) (Nat.le_of_eq (Nat.zero_add _)) (k_X12_stop 1 hY ?_)
            exact wx_throw dX12_nameHere_49 wd_X12_nameHere (by decide) (by rw [ht.1]; exact hF 1 (by unfold pn_; first | (subst hk0; decide) | (subst hk1; decide) | (subst hk2; decide) | (subst hk3; decide) | exact pn_s hT5 ht) (by decide))
          · refine wa_if_eq (tgt := 50) dX12_nameHere_41 (by decide) (fun _ => ?_) (fun h9 => absurd h9 (by decide))
            refine wa_aload_n dX12_nameHere_50 rfl rfl ?_
            refine wa_ldcS (k := 4) (tx := "value") dX12_nameHere_51 (by decide) ?_
            refine wa_callV (q := (RX12, TX12, 50)) (As := [.ref (G.2.2.2.2.1 4)]) dX12_nameHere_53 lk_X12_182 rfl rfl hY.1 rfl rfl (Nat.le_of_ble_eq_true rfl) (Nat.le_of_eq (Nat.zero_add _)) (Nat.le_of_eq (Nat.zero_add _)) (kt_isW 4 f hcs hsf (by decide) hY ht (fun hk4 => ?_) (fun hk4 => ?_))
            · refine wa_if_eq (tgt := 63) dX12_nameHere_56 (by decide) (fun h9 => absurd h9 (by decide)) (fun _ => ?_)
              refine wa_iconst (v := 0) dX12_nameHere_59 (by decide) ?_
              refine wa_goto (tgt := 103) dX12_nameHere_60 (by decide) ?_
              refine wa_istore_n dX12_nameHere_103 (by decide) rfl rfl ?_
              refine wa_iload_n dX12_nameHere_104 rfl ?_
              refine wa_iconst (v := -1) dX12_nameHere_105 (by decide) ?_
              refine wa_icmp_ne (tgt := 115) dX12_nameHere_106 (by decide) (fun _ => ?_) (fun h9 => absurd h9 (by decide))
              refine wa_iload_n dX12_nameHere_115 rfl ?_
              exact wx_of0 (wa_iret dX12_nameHere_116 rfl ⟨by first | (subst hk4; exact hO rfl) | (subst hk5; exact hO rfl) | (subst hk6; exact hO rfl) | (subst hk7; exact hO rfl), fun a h => by cases h⟩)
            · refine wa_if_eq (tgt := 63) dX12_nameHere_56 (by decide) (fun _ => ?_) (fun h9 => absurd h9 (by decide))
              refine wa_aload_n dX12_nameHere_63 rfl rfl ?_
              refine wa_ldcS (k := 5) (tx := "sheets") dX12_nameHere_64 (by decide) ?_
              refine wa_callV (q := (RX12, TX12, 50)) (As := [.ref (G.2.2.2.2.1 5)]) dX12_nameHere_66 lk_X12_182 rfl rfl hY.1 rfl rfl (Nat.le_of_ble_eq_true rfl) (Nat.le_of_eq (Nat.zero_add _)) (Nat.le_of_eq (Nat.zero_add _)) (kt_isW 5 f hcs hsf (by decide) hY ht (fun hk5 => ?_) (fun hk5 => ?_))
              · refine wa_if_eq (tgt := 76) dX12_nameHere_69 (by decide) (fun h9 => absurd h9 (by decide)) (fun _ => ?_)
                refine wa_iconst (v := 1) dX12_nameHere_72 (by decide) ?_
                refine wa_goto (tgt := 103) dX12_nameHere_73 (by decide) ?_
                refine wa_istore_n dX12_nameHere_103 (by decide) rfl rfl ?_
                refine wa_iload_n dX12_nameHere_104 rfl ?_
                refine wa_iconst (v := -1) dX12_nameHere_105 (by decide) ?_
                refine wa_icmp_ne (tgt := 115) dX12_nameHere_106 (by decide) (fun _ => ?_) (fun h9 => absurd h9 (by decide))
                refine wa_iload_n dX12_nameHere_115 rfl ?_
                exact wx_of0 (wa_iret dX12_nameHere_116 rfl ⟨by first | (subst hk4; exact hO rfl) | (subst hk5; exact hO rfl) | (subst hk6; exact hO rfl) | (subst hk7; exact hO rfl), fun a h => by cases h⟩)
              · refine wa_if_eq (tgt := 76) dX12_nameHere_69 (by decide) (fun _ => ?_) (fun h9 => absurd h9 (by decide))
                refine wa_aload_n dX12_nameHere_76 rfl rfl ?_
                refine wa_ldcS (k := 6) (tx := "port") dX12_nameHere_77 (by decide) ?_
                refine wa_callV (q := (RX12, TX12, 50)) (As := [.ref (G.2.2.2.2.1 6)]) dX12_nameHere_79 lk_X12_182 rfl rfl hY.1 rfl rfl (Nat.le_of_ble_eq_true rfl) (Nat.le_of_eq (Nat.zero_add _)) (Nat.le_of_eq (Nat.zero_add _)) (kt_isW 6 f hcs hsf (by decide) hY ht (fun hk6 => ?_) (fun hk6 => ?_))
                · refine wa_if_eq (tgt := 89) dX12_nameHere_82 (by decide) (fun h9 => absurd h9 (by decide)) (fun _ => ?_)
                  refine wa_iconst (v := 2) dX12_nameHere_85 (by decide) ?_
                  refine wa_goto (tgt := 103) dX12_nameHere_86 (by decide) ?_
                  refine wa_istore_n dX12_nameHere_103 (by decide) rfl rfl ?_
                  refine wa_iload_n dX12_nameHere_104 rfl ?_
                  refine wa_iconst (v := -1) dX12_nameHere_105 (by decide) ?_
                  refine wa_icmp_ne (tgt := 115) dX12_nameHere_106 (by decide) (fun _ => ?_) (fun h9 => absurd h9 (by decide))
                  refine wa_iload_n dX12_nameHere_115 rfl ?_
                  exact wx_of0 (wa_iret dX12_nameHere_116 rfl ⟨by first | (subst hk4; exact hO rfl) | (subst hk5; exact hO rfl) | (subst hk6; exact hO rfl) | (subst hk7; exact hO rfl), fun a h => by cases h⟩)
                · refine wa_if_eq (tgt := 89) dX12_nameHere_82 (by decide) (fun _ => ?_) (fun h9 => absurd h9 (by decide))
                  refine wa_aload_n dX12_nameHere_89 rfl rfl ?_
                  refine wa_ldcS (k := 7) (tx := "sealed") dX12_nameHere_90 (by decide) ?_
                  refine wa_callV (q := (RX12, TX12, 50)) (As := [.ref (G.2.2.2.2.1 7)]) dX12_nameHere_92 lk_X12_182 rfl rfl hY.1 rfl rfl (Nat.le_of_ble_eq_true rfl) (Nat.le_of_eq (Nat.zero_add _)) (Nat.le_of_eq (Nat.zero_add _)) (kt_isW 7 f hcs hsf (by decide) hY ht (fun hk7 => ?_) (fun hk7 => ?_))
                  · refine wa_if_eq (tgt := 102) dX12_nameHere_95 (by decide) (fun h9 => absurd h9 (by decide)) (fun _ => ?_)
                    refine wa_iconst (v := 3) dX12_nameHere_98 (by decide) ?_
                    refine wa_goto (tgt := 103) dX12_nameHere_99 (by decide) ?_
                    refine wa_istore_n dX12_nameHere_103 (by decide) rfl rfl ?_
                    refine wa_iload_n dX12_nameHere_104 rfl ?_
                    refine wa_iconst (v := -1) dX12_nameHere_105 (by decide) ?_
                    refine wa_icmp_ne (tgt := 115) dX12_nameHere_106 (by decide) (fun _ => ?_) (fun h9 => absurd h9 (by decide))
                    refine wa_iload_n dX12_nameHere_115 rfl ?_
                    exact wx_of0 (wa_iret dX12_nameHere_116 rfl ⟨by first | (subst hk4; exact hO rfl) | (subst hk5; exact hO rfl) | (subst hk6; exact hO rfl) | (subst hk7; exact hO rfl), fun a h => by cases h⟩)
                  · refine wa_if_eq (tgt := 102) dX12_nameHere_95 (by decide) (fun _ => ?_) (fun h9 => absurd h9 (by decide))
                    refine wa_iconst (v := -1) dX12_nameHere_102 (by decide) ?_
                    refine wa_istore_n dX12_nameHere_103 (by decide) rfl rfl ?_
                    refine wa_iload_n dX12_nameHere_104 rfl ?_
                    refine wa_iconst (v := -1) dX12_nameHere_105 (by decide) ?_
                    refine wa_icmp_ne (tgt := 115) dX12_nameHere_106 (by decide) (fun h9 => absurd h9 (by decide)) (fun _ => ?_)
                    refine wa_aload_n dX12_nameHere_109 rfl rfl ?_
                    refine wa_iconst (v := 2) dX12_nameHere_110 (by decide) ?_
                    refine wa_callV (q := (RX12, TX12, 50)) (As := [.int 2]) dX12_nameHere_111 lk_X12_192 rfl rfl hY.1 rfl rfl (Nat.le_of_ble_eq_true rfl) (Nat.le_of_eq (Nat.zero_add _)) (Nat.le_of_eq (Nat.zero_add _)) (k_X12_stop 2 hY ?_)
                    exact wx_throw dX12_nameHere_114 wd_X12_nameHere (by decide) (by rw [ht.1]; exact hF 2 (by first | exact pn_o hF5 ht hk0 hk1 hk2 hk3 hk4 hk5 hk6 hk7) (by decide))
