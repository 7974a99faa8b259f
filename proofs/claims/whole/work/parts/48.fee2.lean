/-! the class's fee, by the text -/
def pf_ (M : mm_M) (a : Nat) (w v s p h : Int32) : Prop := mm_sh M a = some (.inl 2) ∧ mm_I M a 0 = p ∧ mm_I M a 1 = w ∧ mm_I M a 2 = v ∧ mm_I M a 3 = s ∧ mm_I M a 4 = h
theorem me_ms {M : mm_M} {a : Nat} {w v s p h : Int32} (hp : pf_ M a w v s p h) (nm : Int32) : me_ M a nm = ms_ v s p h nm := by
  obtain ⟨-, h0, h1, h2, h3, h4⟩ := hp
  unfold me_ ms_
  rw [h0, h2, h3, h4]
theorem hs_th {M : mm_M} {a t : Nat} {w v s p h : Int32} {q : ps_T} (hp : pf_ M a w v s p h) (hq : tf_ M t q) : hs_ M t a = th_ v s p h q := by
  obtain ⟨h0, h1, h2⟩ := hq
  unfold hs_ th_
  rw [me_ms hp, h0, h1, h2]
theorem am_tv {M : mm_M} {a t : Nat} {w v s p h : Int32} {q : ps_T} (hp : pf_ M a w v s p h) (hq : tf_ M t q) : am_ M t a = tv_ v s p h q := by
  obtain ⟨h0, h1, h2⟩ := hq
  unfold am_ tv_
  rw [me_ms hp, h0, h1, h2]
theorem tk_s {α : Type} {ts : List α} {k : Nat} {q : α} (h : ts[k]? = some q) : ts.take (k + 1) = ts.take k ++ [q] := by
  rw [List.take_add_one, h]
  rfl
theorem tk_n {α : Type} {ts : List α} {k : Nat} (h : ts[k]? = none) : ts.take (k + 1) = ts.take k := by
  rw [List.take_add_one, h]
  exact List.append_nil _
theorem cf_th {M : mm_M} {e a : Nat} {w v s p h : Int32} {ts : List ps_T} (hp : pf_ M a w v s p h) (ht : tsl_ M (e + 1) 8 ts) : ∀ k, k ≤ 4 → cf_ M e a k = (ts.take k).all (th_ v s p h)
  | 0, _ => by rw [cf_, List.take_zero]; rfl
  | k + 1, hk => by
    rw [cf_, cf_th hp ht k (by omega)]
    obtain ⟨t1, t2⟩ := ht k (by omega)
    cases e1 : ts[k]? with
    | none =>
      rw [t2 e1, tk_n e1]
      exact Bool.and_true _
    | some q =>
      obtain ⟨u, u1, u2, u3⟩ := t1 q e1
      rw [u1, tk_s e1, List.all_append]
      show (_ && hs_ M u a) = _
      rw [hs_th hp u3]
      simp
theorem cs_tv {M : mm_M} {e a : Nat} {w v s p h : Int32} {ts : List ps_T} (hp : pf_ M a w v s p h) (ht : tsl_ M (e + 2) 7 ts) : ∀ k, k ≤ 4 → cs_ M e a k = tsum_ v s p h (ts.take k)
  | 0, _ => by rw [cs_, List.take_zero]; rfl
  | k + 1, hk => by
    rw [cs_]
    obtain ⟨t1, t2⟩ := ht k (by omega)
    cases e1 : ts[k]? with
    | none =>
      rw [t2 e1, tk_n e1]
      exact cs_tv hp ht k (by omega)
    | some q =>
      obtain ⟨u, u1, u2, u3⟩ := t1 q e1
      rw [u1, tk_s e1]
      show cs_ M e a k + am_ M u a = _
      rw [cs_tv hp ht k (by omega), am_tv hp u3]
      unfold tsum_
      rw [List.foldl_append]
      rfl
theorem lnf_h {M : mm_M} {e a : Nat} {w v s p h : Int32} {q : ps_L} (hp : pf_ M a w v s p h) (hl : lnf_ M e q) (hv : vl_ q) : ((mm_I M a 1 = mm_I M e 0 ∧ cf_ M e a 4 = true) ↔ lh_ w v s p h q = true) ∧ cs_ M e a 4 = tsum_ v s p h q.2.2 := by
  obtain ⟨l1, l2, l3, l4⟩ := hl
  rw [cf_th hp l3 4 (by decide), cs_tv hp l4 4 (by decide), List.take_of_length_le hv.1, List.take_of_length_le hv.2.1, hp.2.2.1, l2]
  refine ⟨?_, rfl⟩
  unfold lh_
  rw [Bool.and_eq_true, decide_eq_true_eq]
  exact ⟨fun h => ⟨h.1.symm, h.2⟩, fun h => ⟨h.1.symm, h.2⟩⟩
theorem fo_fq {M : mm_M} {la a : Nat} {w v s p h : Int32} {ls : List ps_L} (hp : pf_ M a w v s p h) (hl : lsl_ M la ls) (hv : ∀ q ∈ ls, vl_ q) : ∀ r i, i + r = 12 → ls.length ≤ 12 → fo_ M la a r i = fq_ (-2) w v s p h (ls.drop i)
  | 0, i, h1, h2 => by
    rw [List.drop_eq_nil_of_le (by omega)]
    rfl
  | r + 1, i, h1, h2 => by
    obtain ⟨t1, t2⟩ := hl i (by omega)
    rw [fo_]
    cases e1 : ls[i]? with
    | none =>
      rw [t2 e1]
      show fo_ M la a r (i + 1) = _
      rw [fo_fq hp hl hv r (i + 1) (by omega) h2]
      have : ls.length ≤ i := List.getElem?_eq_none_iff.mp e1
      rw [List.drop_eq_nil_of_le this, List.drop_eq_nil_of_le (by omega)]
    | some q =>
      obtain ⟨u, u1, u2⟩ := t1 q e1
      rw [u1]
      obtain ⟨hi, eq⟩ := List.getElem?_eq_some_iff.mp e1
      have hq : vl_ q := hv q (List.mem_of_getElem? e1)
      obtain ⟨g1, g2⟩ := lnf_h hp u2 hq
      show (if mm_I M a 1 = mm_I M u 0 ∧ cf_ M u a 4 = true then md_cap (cs_ M u a 4) else fo_ M la a r (i + 1)) = _
      rw [List.drop_eq_getElem_cons hi, eq, fq_, g2, fo_fq hp hl hv r (i + 1) (by omega) h2]
      by_cases h9 : lh_ w v s p h q = true
      · rw [if_pos (g1.mpr h9), if_pos h9]
      · rw [if_neg (fun z => h9 (g1.mp z)), if_neg h9]
theorem lnf_lnw {M : mm_M} {e : Nat} {q : ps_L} (h : lnf_ M e q) : lnw_ M e := by
  obtain ⟨l1, l2, l3, l4⟩ := h
  refine ⟨l1, fun k hk => ?_, fun k hk => ?_⟩
  · obtain ⟨t1, t2⟩ := l3 k hk
    cases e1 : q.2.1[k]? with
    | none => exact Or.inl (t2 e1)
    | some z =>
      obtain ⟨u, u1, u2, -⟩ := t1 z e1
      exact Or.inr ⟨u, u1, u2⟩
  · obtain ⟨t1, t2⟩ := l4 k hk
    cases e1 : q.2.2[k]? with
    | none => exact Or.inl (t2 e1)
    | some z =>
      obtain ⟨u, u1, u2, -⟩ := t1 z e1
      exact Or.inr ⟨u, u1, u2⟩
/-- the class's tariffs, by their texts -/
def dTL_ (M : mm_M) (x T : Nat) (ta la : Nat → Nat) (tl : Nat → List ps_L) : Prop := mm_I M x 8 = nI T ∧ T ≤ 30 ∧ ∀ t, t < T → mm_R M (x + 2) t = some (ta t) ∧ mm_sh M (ta t) = some (.inl 6) ∧ mm_R M (ta t) 1 = some (la t) ∧ mm_sh M (la t) = some (.inr (4, 12)) ∧ lsl_ M (la t) (tl t)
/-- texts that can be read -/
def vtl_ (T : Nat) (tl : Nat → List ps_L) : Prop := ∀ t, t < T → (tl t).length ≤ 12 ∧ ∀ q ∈ tl t, vl_ q
theorem dTL_dT {M : mm_M} {x T : Nat} {ta la : Nat → Nat} {tl : Nat → List ps_L} (h : dTL_ M x T ta la tl) : dT_ M x T ta la := by
  refine ⟨h.1, h.2.1, fun t ht => ?_⟩
  obtain ⟨h1, h2, h3, h4, h5⟩ := h.2.2 t ht
  refine ⟨h1, h2, h3, h4, fun i hi => ?_⟩
  obtain ⟨t1, t2⟩ := h5 i hi
  cases e1 : (tl t)[i]? with
  | none => exact Or.inl (t2 e1)
  | some z =>
    obtain ⟨u, u1, u2⟩ := t1 z e1
    exact Or.inr ⟨u, u1, lnf_lnw u2⟩
theorem fo_t {M : mm_M} {x T : Nat} {ta la : Nat → Nat} {tl : Nat → List ps_L} (h : dTL_ M x T ta la tl) (hv : vtl_ T tl) {t a : Nat} {w v s p q : Int32} (ht : t < T) (hp : pf_ M a w v s p q) : fo_ M (la t) a 12 0 = fq_ (-2) w v s p q (tl t) :=
  fo_fq hp (h.2.2 t ht).2.2.2.2 (hv t ht).2 12 0 rfl (hv t ht).1
/-! the reference's fee, by the text -/
theorem vo_ms {v s p h nm : Int32} (hn : pn_ nm = 0) : vo_ (nm - 8) v s p h = ms_ v s p h nm := by
  rcases nmq_c (nmq_pn.mpr hn) with rfl | rfl | rfl | rfl <;> rfl
theorem vo_m2 {v s p h nm : Int32} (hn : nm = 12 ∨ pn_ nm = 0) : vo_ (if nm = 12 then -1 else nm - 8) v s p h = ms_ v s p h nm := by
  rcases hn with rfl | hn
  · rfl
  · rw [if_neg (pn_m1 hn).2]
    exact vo_ms hn
theorem md_hn_t {M : mm_M} {y l : Nat} {w v s p h : Int32} {q : ps_L} (hq : rr_ln M y l q) (hv : vl_ q) : ∀ k, k ≤ q.2.1.length → md_hn M y l w v s p h k = (decide (q.1 = w) && (q.2.1.take k).all (th_ v s p h))
  | 0, _ => by rw [md_hn, List.take_zero, hq.1]; simp
  | k + 1, hk => by
    have e1 : q.2.1[k]? = some q.2.1[k] := List.getElem?_eq_getElem (by omega)
    rw [md_hn, md_hn_t hq hv k (by omega), tk_s e1, List.all_append]
    obtain ⟨r1, r2, r3⟩ := hq.2.2.2.2.2.1 k _ e1
    have hm := hv.2.2.1 _ (List.mem_of_getElem? e1)
    have : md_tst M y (4 * l + k) v s p h = th_ v s p h q.2.1[k] := by
      unfold md_tst th_
      rw [r1, r2, r3, vo_ms hm]
    rw [this]
    simp [Bool.and_assoc]
theorem nb_pos {x : Int32} {hi : Nat} (h : nb_ x 1 hi) (hh : hi < 2 ^ 31) : 0 < x := by
  obtain ⟨k, k1, k2, rfl⟩ := h
  exact nI_lt (a := 0) (by omega) (by omega)
theorem md_tt_t {M : mm_M} {y l : Nat} {v s p h : Int32} {q : ps_L} (hq : rr_ln M y l q) (hv : vl_ q) : ∀ k, k ≤ q.2.2.length → md_tt M y l v s p h k = tsum_ v s p h (q.2.2.take k)
  | 0, _ => by rw [md_tt, List.take_zero]; rfl
  | k + 1, hk => by
    have e1 : q.2.2[k]? = some q.2.2[k] := List.getElem?_eq_getElem (by omega)
    rw [md_tt, md_tt_t hq hv k (by omega), tk_s e1]
    obtain ⟨r1, r2, r3⟩ := hq.2.2.2.2.2.2 k _ e1
    obtain ⟨m1, m2, m3⟩ := hv.2.2.2 _ (List.mem_of_getElem? e1)
    unfold tsum_
    rw [List.foldl_append]
    show _ + _ = _ + tv_ v s p h q.2.2[k]
    unfold tv_
    rw [if_pos (nb_pos m3 (by decide)), r1, r2, r3, vo_m2 m2]
theorem md_fe_t {M : mm_M} {y T : Nat} {w v s p h : Int32} {ls : List ps_L} {tn tm : Nat → Nat} (hd : rr_dn M y T ls) (hv : ∀ q ∈ ls, vl_ q) (hn : ∀ i q, ls[i]? = some q → tn (12 * T + i) = q.2.1.length ∧ tm (12 * T + i) = q.2.2.length) : ∀ r i, i + r = ls.length → md_fe M y tn tm w v s p h r (12 * T + i) = fq_ (-1) w v s p h (ls.drop i)
  | 0, i, h1 => by
    rw [List.drop_eq_nil_of_le (by omega)]
    rfl
  | r + 1, i, h1 => by
    have e1 : ls[i]? = some ls[i] := List.getElem?_eq_getElem (by omega)
    have hq := hd i _ e1
    have hvq := hv _ (List.mem_of_getElem? e1)
    obtain ⟨n1, n2⟩ := hn i _ e1
    rw [md_fe, List.drop_eq_getElem_cons (by omega), fq_, n1, n2, md_hn_t hq hvq _ (Nat.le_refl _), md_tt_t hq hvq _ (Nat.le_refl _), List.take_length, List.take_length]
    rw [show 12 * T + i + 1 = 12 * T + (i + 1) from rfl, md_fe_t hd hv hn r (i + 1) (by omega)]
    rfl
/-- the reference's tariffs, by their texts -/
def rTL_ (M : mm_M) (y T : Nat) (tl : Nat → List ps_L) : Prop := ∀ t, t < T → rr_all M y t (tl t)
def tn_ (tl : Nat → List ps_L) (l : Nat) : Nat := match (tl (l / 12))[l % 12]? with
  | some q => q.2.1.length
  | none => 0
def tm_ (tl : Nat → List ps_L) (l : Nat) : Nat := match (tl (l / 12))[l % 12]? with
  | some q => q.2.2.length
  | none => 0
theorem tn_at {tl : Nat → List ps_L} {t i : Nat} {q : ps_L} (hl : (tl t).length ≤ 12) (h : (tl t)[i]? = some q) : tn_ tl (12 * t + i) = q.2.1.length ∧ tm_ tl (12 * t + i) = q.2.2.length := by
  have hi := rr_len h
  unfold tn_ tm_
  rw [show (12 * t + i) / 12 = t from by omega, show (12 * t + i) % 12 = i from by omega, h]
  exact ⟨rfl, rfl⟩
theorem rTL_F {M : mm_M} {y T : Nat} {tl : Nat → List ps_L} (h : rTL_ M y T tl) (hv : vtl_ T tl) {t : Nat} (ht : t < T) : md_TF M y t ((tl t).length) (tn_ tl) (tm_ tl) := by
  obtain ⟨h1, h2, h3⟩ := h t ht
  refine ⟨h1, h2, fun l hl => ?_⟩
  have e1 : (tl t)[l]? = some (tl t)[l] := List.getElem?_eq_getElem hl
  obtain ⟨n1, n2⟩ := tn_at h2 e1
  obtain ⟨g1, g2, g3, g4, g5, g6, g7⟩ := h3 l _ e1
  have hvq := (hv t ht).2 _ (List.mem_of_getElem? e1)
  rw [n1, n2]
  refine ⟨g2, g3, g4, g5, fun k hk => ?_⟩
  have e2 : (tl t)[l].2.2[k]? = some (tl t)[l].2.2[k] := List.getElem?_eq_getElem hk
  obtain ⟨r1, r2, r3⟩ := g7 k _ e2
  rw [r3]
  have := nb_pos (hvq.2.2.2 _ (List.mem_of_getElem? e2)).2.2 (by decide)
  intro e
  rw [e] at this
  exact absurd this (by decide)
theorem md_ft_t {M : mm_M} {y T : Nat} {tl : Nat → List ps_L} (h : rTL_ M y T tl) (hv : vtl_ T tl) {t : Nat} (ht : t < T) (w v s p q : Int32) : md_ft M y (fun t => (tl t).length) (tn_ tl) (tm_ tl) t w v s p q = fq_ (-1) w v s p q (tl t) := by
  obtain ⟨h1, h2, h3⟩ := h t ht
  exact md_fe_t h3 (hv t ht).2 (fun i q e => tn_at h2 e) _ 0 (Nat.zero_add _)
/-! what fees can be -/
theorem tv_nat {v s p h : Int32} {q : ps_T} (hm : vm_ q) (hb : ∀ nm, nb_ (ms_ v s p h nm) 0 9999) : nb_ (tv_ v s p h q) 0 9989001 := by
  obtain ⟨m1, m2, m3⟩ := hm
  unfold tv_
  rw [if_pos (nb_pos m3 (by decide))]
  obtain ⟨a, -, a2, ea⟩ := m1
  obtain ⟨b, -, b2, eb⟩ := hb q.2.1
  obtain ⟨c, c1, c2, ec⟩ := m3
  have h1 : a * b ≤ 999 * 9999 := Nat.mul_le_mul a2 b2
  rw [ea, eb, ec, pk_mul, pk_div (by omega) (by omega) (by omega)]
  exact ⟨a * b / c, Nat.zero_le _, Nat.le_trans (Nat.div_le_self _ _) h1, rfl⟩
theorem tsum_nat {v s p h : Int32} (hb : ∀ nm, nb_ (ms_ v s p h nm) 0 9999) : ∀ (ts : List ps_T) (acc : Nat), (∀ t ∈ ts, vm_ t) → acc + ts.length * 9989001 < 2 ^ 31 → ∃ k, k ≤ acc + ts.length * 9989001 ∧ ts.foldl (fun acc q => acc + tv_ v s p h q) (nI acc) = nI k
  | [], acc, _, _ => ⟨acc, by simp, rfl⟩
  | q :: r, acc, hv, hl => by
    obtain ⟨c, -, c2, ec⟩ := tv_nat (hv q List.mem_cons_self) hb
    rw [List.length_cons] at hl ⊢
    obtain ⟨k, k1, k2⟩ := tsum_nat hb r (acc + c) (fun t ht => hv t (List.mem_cons_of_mem _ ht)) (by omega)
    refine ⟨k, by omega, ?_⟩
    rw [List.foldl_cons, ec, nI_add]
    exact k2
theorem fq_nat {n0 w v s p h : Int32} (hb : ∀ nm, nb_ (ms_ v s p h nm) 0 9999) : ∀ ls : List ps_L, (∀ q ∈ ls, vl_ q) → fq_ n0 w v s p h ls = n0 ∧ fq_ (-1) w v s p h ls = -1 ∧ fq_ (-2) w v s p h ls = -2 ∨ ∃ k, k ≤ 5000 ∧ fq_ n0 w v s p h ls = nI k ∧ fq_ (-1) w v s p h ls = nI k ∧ fq_ (-2) w v s p h ls = nI k
  | [], _ => Or.inl ⟨rfl, rfl, rfl⟩
  | q :: r, hv => by
    unfold fq_
    by_cases h9 : lh_ w v s p h q = true
    · rw [if_pos h9, if_pos h9, if_pos h9]
      have hq := hv q List.mem_cons_self
      obtain ⟨k, k1, k2⟩ := tsum_nat hb q.2.2 0 hq.2.2.2 (by have := hq.2.1; omega)
      have e : tsum_ v s p h q.2.2 = nI k := k2
      rw [e]
      have hk : k < 2 ^ 31 := by have := hq.2.1; omega
      unfold md_cap
      by_cases h5 : 5000 < k
      · rw [if_pos (show (5000 : Int32) < nI k from (nI_ltI (a := 5000) (by decide) hk).mpr h5)]
        exact Or.inr ⟨5000, Nat.le_refl _, rfl, rfl, rfl⟩
      · rw [if_neg (show ¬ (5000 : Int32) < nI k from fun z => h5 ((nI_ltI (a := 5000) (by decide) hk).mp z))]
        exact Or.inr ⟨k, by omega, rfl, rfl, rfl⟩
    · rw [if_neg h9, if_neg h9, if_neg h9]
      exact fq_nat hb r (fun t ht => hv t (List.mem_cons_of_mem _ ht))
