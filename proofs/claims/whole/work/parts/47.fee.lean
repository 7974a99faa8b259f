/-! fees of a tariff, as the text says them -/
def ms_ (v s p h nm : Int32) : Int32 := if nm = 8 then v else if nm = 9 then s else if nm = 10 then p else if nm = 11 then h else 1
def th_ (v s p h : Int32) (q : ps_T) : Bool := if q.2.1 = 60 then decide (ms_ v s p h q.1 < q.2.2) else if q.2.1 = 62 then decide (q.2.2 < ms_ v s p h q.1) else decide (ms_ v s p h q.1 = q.2.2)
def tv_ (v s p h : Int32) (q : ps_T) : Int32 := if 0 < q.2.2 then q.1 * ms_ v s p h q.2.1 / q.2.2 else q.1 * ms_ v s p h q.2.1
def tsum_ (v s p h : Int32) (ts : List ps_T) : Int32 := ts.foldl (fun acc q => acc + tv_ v s p h q) 0
def lh_ (w v s p h : Int32) (q : ps_L) : Bool := decide (q.1 = w) && q.2.1.all (th_ v s p h)
/-- the fee of a paper; the first number stands for none -/
def fq_ (none_ w v s p h : Int32) : List ps_L → Int32
  | [] => none_
  | q :: r => if lh_ w v s p h q then md_cap (tsum_ v s p h q.2.2) else fq_ none_ w v s p h r
/-- a number of a text -/
def nb_ (x : Int32) (lo hi : Nat) : Prop := ∃ k : Nat, lo ≤ k ∧ k ≤ hi ∧ x = nI k
def vt_ (q : ps_T) : Prop := pn_ q.1 = 0
def vm_ (q : ps_T) : Prop := nb_ q.1 0 999 ∧ (q.2.1 = 12 ∨ pn_ q.2.1 = 0) ∧ nb_ q.2.2 1 999
def vl_ (q : ps_L) : Prop := q.2.1.length ≤ 4 ∧ q.2.2.length ≤ 4 ∧ (∀ t ∈ q.2.1, vt_ t) ∧ ∀ t ∈ q.2.2, vm_ t
/-! texts that can be read are so -/
theorem dg_nat {v : Int32} (h : dg_ v) : ∃ k, 48 ≤ k ∧ k ≤ 57 ∧ v = nI k := by
  obtain ⟨h1, h2⟩ := h
  obtain ⟨j, hj, rfl⟩ := nI_of2 (M := 57) (n := 57) rfl (Int32.not_lt.mpr (Int32.le_trans (by decide) h1)) h2
  exact ⟨j, ni_le (a := 48) h1 (by decide) (by omega), hj, rfl⟩
theorem nv_nat {b : Nat → Int32} {q : Nat} : ∀ k, k ≤ 3 → (∀ j, q ≤ j → j < q + k → dg_ (b j)) → ∃ w, w < 10 ^ k ∧ nv_ b q k = nI w
  | 0, _, _ => ⟨0, by decide, rfl⟩
  | k + 1, h, hd => by
    obtain ⟨w, hw, e⟩ := nv_nat k (by omega) (fun j h1 h2 => hd j h1 (by omega))
    obtain ⟨c, c1, c2, e2⟩ := dg_nat (hd (q + k) (by omega) (by omega))
    refine ⟨10 * w + (c - 48), ?_, ?_⟩
    · rw [Nat.pow_succ]; omega
    · rw [nv_, e, e2, show (10 : Int32) = nI 10 from rfl, pk_mul, nI_add, show (48 : Int32) = nI 48 from rfl, pk_sub (by omega)]
      exact congrArg nI (by omega)
theorem tz_v {b : Nat → Int32} {n p p' : Nat} {k l v : Int32} (h : tz_ b n p k l v p') (hk : k = 2) : nb_ v 0 999 := by
  obtain ⟨q, -, -, -, -, -, h⟩ := h
  rcases h with ⟨-, e, -⟩ | ⟨-, e, -, -, -, -, -, h⟩ | ⟨-, -, e, h1, -, h3, -, -, h⟩ | ⟨-, -, -, h, e, -⟩ | ⟨-, -, -, -, e⟩
  · rw [hk] at e; exact absurd e (by decide)
  · rcases h with ⟨-, e⟩ | ⟨-, j, hj, -, e⟩ | ⟨-, -, e⟩
    · rw [hk] at e; exact absurd e (by decide)
    · rw [hk] at e
      have : ∀ j, j < 8 → ¬ (2 : Int32) = nI (4 + j) := by decide +kernel
      exact absurd e (this j hj)
    · rw [hk] at e; exact absurd e (by decide)
  · rcases h with ⟨-, e⟩ | ⟨h4, -, e⟩
    · rw [hk] at e; exact absurd e (by decide)
    · obtain ⟨w, hw, e2⟩ := nv_nat (b := b) (q := q) _ h4 (fun j j1 j2 => h3 j j1 (by omega))
      refine ⟨w, Nat.zero_le _, ?_, e.trans e2⟩
      have : 10 ^ (_ - q) ≤ 10 ^ 3 := Nat.pow_le_pow_right (by decide) h4
      omega
  · rw [hk] at e
    rw [← e] at h
    exact absurd h (by unfold sg_; decide)
  · rw [hk] at e; exact absurd e (by decide)
/-- what a stream of tokens gives to its readers -/
def sv_ (m : Nat) (K V : Nat → Int32) : Prop := K m = 0 ∧ ∀ i, i ≤ m → K i = 2 → nb_ (V i) 0 999
theorem sv_of {b : Nat → Int32} {n m : Nat} {K L V : Nat → Int32} {P : Nat → Nat} (hs : stm_ b n m K L V P) : sv_ m K V := ⟨hs.2.2, fun i hi hk => tz_v (hs.2.1 i hi).1 hk⟩
theorem sv_lt {m : Nat} {K V : Nat → Int32} (hs : sv_ m K V) {i : Nat} {c : Int32} (hi : i ≤ m) (hk : K i = c) (hc : ¬ c = 0) : i + 1 ≤ m := by
  have : i ≠ m := fun e => hc (by rw [← hk, e]; exact hs.1)
  omega
theorem ps_test_v {m : Nat} {K V : Nat → Int32} (hs : sv_ m K V) {c i j : Nat} {q : ps_T} (hi : i ≤ m) (h : ps_test K V c i = .inr (q, j)) : j ≤ m ∧ vt_ q := by
  unfold ps_test at h
  split at h
  · cases h
  · rename_i h0
    split at h
    · cases h
    · split at h
      · cases h
      · rename_i h1
        split at h
        · cases h
        · rename_i h2
          cases h
          have h0 := Decidable.not_not.mp h0
          have h1 := Decidable.not_not.mp h1
          have h2 := Decidable.not_not.mp h2
          have i1 := sv_lt hs hi rfl (pn_0 h0).1
          have i2 := sv_lt hs i1 rfl (by rcases h1 with e | e | e <;> (rw [e]; decide))
          exact ⟨sv_lt hs i2 h2 (by decide), h0⟩
theorem ps_div_v {m : Nat} {K V : Nat → Int32} (hs : sv_ m K V) {fa nm : Int32} {j j' : Nat} {q : ps_T} (hj : j ≤ m) (hf : nb_ fa 0 999) (hn : nm = 12 ∨ pn_ nm = 0) (h : ps_div K V fa nm j = .inr (q, j')) : j' ≤ m ∧ vm_ q := by
  unfold ps_div at h
  split at h
  · cases h
    exact ⟨hj, hf, hn, 1, by decide, by decide, rfl⟩
  · rename_i h0
    have h0 := Decidable.not_not.mp h0
    have j1 := sv_lt hs hj h0 (by decide)
    split at h
    · cases h
    · rename_i h1
      have h1 := Decidable.not_not.mp h1
      split at h
      · cases h
      · rename_i h2
        cases h
        obtain ⟨w, -, w2, e⟩ := hs.2 _ j1 h1
        refine ⟨sv_lt hs j1 h1 (by decide), hf, hn, w, ?_, w2, e⟩
        rcases Nat.eq_zero_or_pos w with h | h
        · subst h
          exact absurd (e.trans rfl) h2
        · exact h
theorem ps_term_v {m : Nat} {K V : Nat → Int32} (hs : sv_ m K V) {c i j : Nat} {q : ps_T} (hi : i ≤ m) (h : ps_term K V c i = .inr (q, j)) : j ≤ m ∧ vm_ q := by
  unfold ps_term at h
  split at h
  · rename_i h0
    have i1 := sv_lt hs hi h0 (by decide)
    split at h
    · cases h
    · split at h
      · cases h
        exact ⟨i1, hs.2 i hi h0, Or.inl rfl, 1, by decide, by decide, rfl⟩
      · rename_i h1
        have i2 := sv_lt hs i1 (Decidable.not_not.mp h1) (by decide)
        split at h
        · cases h
        · rename_i h2
          have h2 := Decidable.not_not.mp h2
          exact ps_div_v hs (sv_lt hs i2 rfl (pn_0 h2).1) (hs.2 i hi h0) (Or.inr h2) h
  · split at h
    · cases h
    · rename_i h1
      have h1 := Decidable.not_not.mp h1
      split at h
      · cases h
      · exact ps_div_v hs (sv_lt hs hi rfl (pn_0 h1).1) ⟨1, by decide, by decide, rfl⟩ (Or.inr h1) h
theorem ps_run_v {m : Nat} {f : Nat → Nat → (Int32 × Nat) ⊕ (ps_T × Nat)} {K V : Nat → Int32} {s : Int32} (hs : sv_ m K V) (h0 : ¬ s = 0) {X : ps_T → Prop} (h4 : ∀ i q j, ¬ f 4 i = .inr (q, j)) (hf : ∀ c i q j, i ≤ m → f c i = .inr (q, j) → j ≤ m ∧ X q) :
    ∀ (r c i : Nat) (ts : List ps_T) (j : Nat), c ≤ 4 → i ≤ m → ps_run f K s r c i = .inr (ts, j) → j ≤ m ∧ c + ts.length ≤ 4 ∧ ∀ t ∈ ts, X t
  | 0, c, i, ts, j, _, _, h => by cases h
  | r + 1, c, i, ts, j, hc, hi, h => by
    cases e : f c i with
    | inl q => rw [ps_run_i e] at h; cases h
    | inr z =>
      obtain ⟨q, j1⟩ := z
      have hc4 : c < 4 := Nat.lt_of_le_of_ne hc (fun e9 => by subst e9; exact h4 i q j1 e)
      obtain ⟨g1, g2⟩ := hf c i q j1 hi e
      rw [ps_run_r e] at h
      split at h
      · rename_i hk
        cases e2 : ps_run f K s r (c + 1) (j1 + 1) with
        | inl z => rw [e2] at h; cases h
        | inr z =>
          obtain ⟨us, j2⟩ := z
          rw [e2] at h
          cases h
          obtain ⟨k1, k2, k3⟩ := ps_run_v hs h0 h4 hf r (c + 1) (j1 + 1) us j2 (by omega) (sv_lt hs g1 hk h0) e2
          refine ⟨k1, by simp only [List.length_append, List.length_cons, List.length_nil]; omega, fun t ht => ?_⟩
          rcases List.mem_cons.mp ht with e | e
          · rw [e]; exact g2
          · exact k3 t e
      · cases h
        refine ⟨g1, by simp only [List.length_cons, List.length_nil]; omega, fun t ht => ?_⟩
        rw [List.mem_singleton.mp ht]
        exact g2
theorem ps_line_v {m : Nat} {K V : Nat → Int32} (hs : sv_ m K V) {a i j : Nat} {q : ps_L} (hi : i ≤ m) (h : ps_line K V a i = .inr (q, j)) : j ≤ m ∧ vl_ q ∧ a ≠ 12 := by
  have ha : a ≠ 12 := fun e => by subst e; exact ps_line_12 h
  by_cases h0 : K i = 4
  · have i1 := sv_lt hs hi h0 (by decide)
    by_cases h1 : K (i + 1) = 2
    · have i2 := sv_lt hs i1 h1 (by decide)
      by_cases h2 : 9 < V (i + 1)
      · unfold ps_line at h
        rw [if_neg (fun z => z h0), if_neg ha, if_neg (fun z => z h1), if_pos h2] at h
        cases h
      · rw [ps_line_t h0 ha h1 h2 rfl] at h
        cases e : (if K (i + 2) = 5 then ps_run (ps_test K V) K 6 5 0 (i + 3) else .inr ([], i + 2)) with
        | inl z => rw [e] at h; cases h
        | inr z =>
          rw [e] at h
          have ht : z.2 ≤ m ∧ z.1.length ≤ 4 ∧ ∀ t ∈ z.1, vt_ t := by
            split at e
            · rename_i h5
              obtain ⟨k1, k2, k3⟩ := ps_run_v hs (by decide) (fun i q j => ps_test_4) (fun c i q j h1 h2 => ps_test_v hs h1 h2) 5 0 (i + 3) z.1 z.2 (by decide) (sv_lt hs i2 h5 (by decide)) e
              exact ⟨k1, by omega, k3⟩
            · cases e
              exact ⟨i2, Nat.zero_le _, fun t ht => absurd ht List.not_mem_nil⟩
          obtain ⟨t1, t2, t3⟩ := ht
          change ps_l3 K V i z.1 z.2 = _ at h
          unfold ps_l3 at h
          by_cases h7 : K z.2 = 7
          · rw [if_neg (fun z => z h7)] at h
            cases e2 : ps_run (ps_term K V) K 43 5 0 (z.2 + 1) with
            | inl w => rw [e2] at h; cases h
            | inr w =>
              rw [e2] at h
              cases h
              obtain ⟨k1, k2, k3⟩ := ps_run_v hs (by decide) (fun i q j => ps_term_4) (fun c i q j h1 h2 => ps_term_v hs h1 h2) 5 0 (z.2 + 1) w.1 w.2 (by decide) (sv_lt hs t1 h7 (by decide)) e2
              exact ⟨k1, ⟨t2, by show w.1.length ≤ 4; omega, t3, k3⟩, ha⟩
          · rw [if_pos h7] at h; cases h
    · unfold ps_line at h
      rw [if_neg (fun z => z h0), if_neg ha, if_pos h1] at h
      cases h
  · unfold ps_line at h
    rw [if_pos h0] at h
    cases h
theorem ps_lines_v {m : Nat} {K V : Nat → Int32} (hs : sv_ m K V) : ∀ (r a i : Nat) (ls : List ps_L), a ≤ 12 → i ≤ m → ps_lines K V r a i = .inr ls → a + ls.length ≤ 12 ∧ ∀ q ∈ ls, vl_ q
  | 0, a, i, ls, _, _, h => by cases h
  | r + 1, a, i, ls, ha, hi, h => by
    cases e : ps_line K V a i with
    | inl q => rw [psl_i e] at h; cases h
    | inr z =>
      obtain ⟨q, j⟩ := z
      obtain ⟨g1, g2, g3⟩ := ps_line_v hs hi e
      rw [psl_r e] at h
      split at h
      · rename_i hk
        cases e2 : ps_lines K V r (a + 1) (j + 1) with
        | inl z => rw [e2] at h; cases h
        | inr us =>
          rw [e2] at h
          cases h
          obtain ⟨k1, k2⟩ := ps_lines_v hs r (a + 1) (j + 1) us (by omega) (sv_lt hs g1 hk (by decide)) e2
          refine ⟨by simp only [List.length_append, List.length_cons, List.length_nil]; omega, fun t ht => ?_⟩
          rcases List.mem_cons.mp ht with e | e
          · rw [e]; exact g2
          · exact k2 t e
      · split at h
        · cases h
          refine ⟨by simp only [List.length_cons, List.length_nil]; omega, fun t ht => ?_⟩
          rw [List.mem_singleton.mp ht]
          exact g2
        · cases h
