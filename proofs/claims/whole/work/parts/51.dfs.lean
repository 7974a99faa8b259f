/-! stamps: the fewest, of as few those with more of the greatest worth -/
def dot_ (n : Nat → Nat) : Nat := n 0 + 2 * n 1 + 5 * n 2 + 10 * n 3 + 50 * n 4
def cnt_ (n : Nat → Nat) : Nat := n 0 + n 1 + n 2 + n 3 + n 4
def enc_ (n : Nat → Nat) : Nat := n 1 + 4096 * n 2 + 4194304 * n 3 + 2147483648 * n 4
def fz_ (st : Nat → Nat) (fee : Nat) (n : Nat → Nat) : Prop := n 0 ≤ st 0 ∧ n 1 ≤ st 1 ∧ n 2 ≤ st 2 ∧ n 3 ≤ st 3 ∧ n 4 ≤ st 4 ∧ dot_ n = fee
/-- within what the search tries, below worth w -/
def pr_ (st : Nat → Nat) (n : Nat → Nat) : Nat → Nat → Prop
  | 0, rest => rest = 0
  | w + 1, rest => (tmo_ st w rest - Sp w ≤ n w ∧ n w ≤ tmo_ st w rest) ∧ pr_ st n w (rest - n w * Wt w)
def cw_ (n : Nat → Nat) : Nat → Nat
  | 0 => 0
  | w + 1 => cw_ n w + n w
def En (w : Nat) : Nat := match w with | 0 => 0 | 1 => 1 | 2 => 4096 | 3 => 4194304 | _ => 2147483648
def cd_ (n : Nat → Nat) : Nat → Nat
  | 0 => 0
  | w + 1 => cd_ n w + n w * En w
def rch_ (st : Nat → Nat) (w : Nat) (tr : Nat → Nat) (rest : Nat) (n : Nat → Nat) : Prop := (∀ i, w ≤ i → n i = tr i) ∧ pr_ st n w rest
/-- the best of what was there and of a set; what is met first has the greater cd -/
def bst_ (S : (Nat → Nat) → Prop) (many : Nat) (w : Nat) (b r : tw_B) : Prop :=
  (r = none → b = none ∧ ∀ n, ¬ S n) ∧ ∀ q, r = some q → (b = some q ∧ ∀ n, S n → q.2 ≤ many + cw_ n w) ∨ (S q.1 ∧ q.2 = many + cw_ q.1 w ∧ (∀ p, b = some p → q.2 < p.2) ∧ ∀ n, S n → q.2 < many + cw_ n w ∨ (q.2 = many + cw_ n w ∧ cd_ n w ≤ cd_ q.1 w))
theorem tmo_w {st : Nat → Nat} {w rest : Nat} : tmo_ st w rest * Wt w ≤ rest := Nat.le_trans (Nat.mul_le_mul_right _ (Nat.min_le_right _ _)) (Nat.div_mul_le_self _ _)
theorem pr_le {st n : Nat → Nat} {w rest : Nat} (h : pr_ st n (w + 1) rest) : n w * Wt w ≤ rest := Nat.le_trans (Nat.mul_le_mul_right _ h.1.2) tmo_w
theorem pr_cd {st n : Nat → Nat} : ∀ w rest, w ≤ 4 → rest ≤ 5000 → pr_ st n w rest → cd_ n w ≤ En w
  | 0, rest, _, _, _ => Nat.le_refl _
  | 1, rest, _, hr, h => by show 0 + n 0 * 0 ≤ 1; omega
  | 2, rest, _, hr, h => by
    have h1 := pr_le h
    show 0 + n 0 * 0 + n 1 * 1 ≤ 4096
    change n 1 * 2 ≤ rest at h1
    omega
  | 3, rest, _, hr, h => by
    have h1 := pr_le h
    have h2 := pr_le h.2
    show 0 + n 0 * 0 + n 1 * 1 + n 2 * 4096 ≤ 4194304
    change n 2 * 5 ≤ rest at h1
    change n 1 * 2 ≤ rest - n 2 * 5 at h2
    omega
  | 4, rest, _, hr, h => by
    have h1 := pr_le h
    have h2 := pr_le h.2
    have h3 := pr_le h.2.2
    show 0 + n 0 * 0 + n 1 * 1 + n 2 * 4096 + n 3 * 4194304 ≤ 2147483648
    change n 3 * 10 ≤ rest at h1
    change n 2 * 5 ≤ rest - n 3 * 10 at h2
    change n 1 * 2 ≤ rest - n 3 * 10 - n 2 * 5 at h3
    omega
  | w + 5, _, h, _, _ => absurd h (by omega)
theorem rch_eq {st : Nat → Nat} {w : Nat} {tr n : Nat → Nat} {rest : Nat} : rch_ st (w + 1) tr rest n ↔ (tmo_ st w rest - Sp w ≤ n w ∧ n w ≤ tmo_ st w rest) ∧ rch_ st w (tu_ tr w (n w)) (rest - n w * Wt w) n := by
  constructor
  · rintro ⟨h1, h2, h3⟩
    refine ⟨h2, fun i hi => ?_, h3⟩
    unfold tu_
    by_cases e : i = w
    · rw [if_pos e, e]
    · rw [if_neg e]
      exact h1 i (by omega)
  · rintro ⟨h1, h2, h3⟩
    refine ⟨fun i hi => ?_, h1, h3⟩
    have := h2 i (by omega)
    unfold tu_ at this
    rw [if_neg (by omega)] at this
    exact this
theorem tl_bst {st : Nat → Nat} {w : Nat} (hw : w ≤ 4) {tr : Nat → Nat} {rest many lo : Nat} (hr : rest ≤ 5000) (hlo : ∀ t, lo ≤ t → t * Wt w ≤ rest ∨ True) (f : Nat → tw_B → tw_B)
    (hf : ∀ t b, bst_ (rch_ st w (tu_ tr w t) (rest - t * Wt w)) (many + t) w b (f t b)) : ∀ (k : Nat) (b : tw_B), bst_ (fun n => (lo ≤ n w ∧ n w < lo + k) ∧ rch_ st w (tu_ tr w (n w)) (rest - n w * Wt w) n) many (w + 1) b (tl_ f lo k b)
  | 0, b => ⟨fun h => ⟨h, fun n hn => absurd hn.1 (by omega)⟩, fun q h => Or.inl ⟨h, fun n hn => absurd hn.1 (by omega)⟩⟩
  | k + 1, b => by
    obtain ⟨a1, a2⟩ := hf (lo + k) b
    obtain ⟨c1, c2⟩ := tl_bst hw hr hlo f hf k (f (lo + k) b)
    have split : ∀ n, ((lo ≤ n w ∧ n w < lo + (k + 1)) ∧ rch_ st w (tu_ tr w (n w)) (rest - n w * Wt w) n) → (n w = lo + k ∧ rch_ st w (tu_ tr w (lo + k)) (rest - (lo + k) * Wt w) n) ∨ ((lo ≤ n w ∧ n w < lo + k) ∧ rch_ st w (tu_ tr w (n w)) (rest - n w * Wt w) n) := by
      rintro n ⟨h1, h2⟩
      by_cases e : n w = lo + k
      · rw [e] at h2
        exact Or.inl ⟨e, h2⟩
      · exact Or.inr ⟨⟨h1.1, by omega⟩, h2⟩
    have wt : ∀ n, rch_ st w (tu_ tr w (lo + k)) (rest - (lo + k) * Wt w) n → n w = lo + k := fun n h => by
      have := h.1 w (Nat.le_refl _)
      unfold tu_ at this
      rw [if_pos rfl] at this
      exact this
    refine ⟨fun h => ?_, fun q h => ?_⟩
    · obtain ⟨d1, d2⟩ := c1 h
      obtain ⟨e1, e2⟩ := a1 d1
      refine ⟨e1, fun n hn => ?_⟩
      rcases split n hn with ⟨-, h1⟩ | h1
      · exact e2 n h1
      · exact d2 n h1
    · rcases c2 q h with ⟨d1, d2⟩ | ⟨d1, d2, d3, d4⟩
      · rcases a2 q d1 with ⟨e1, e2⟩ | ⟨e1, e2, e3, e4⟩
        · refine Or.inl ⟨e1, fun n hn => ?_⟩
          rcases split n hn with ⟨h0, h1⟩ | h1
          · have := e2 n h1
            show q.2 ≤ many + (cw_ n w + n w)
            omega
          · exact d2 n h1
        · have hq := wt _ e1
          refine Or.inr ⟨⟨⟨by omega, by omega⟩, by rw [hq]; exact e1⟩, ?_, e3, fun n hn => ?_⟩
          · show q.2 = many + (cw_ q.1 w + q.1 w)
            omega
          · rcases split n hn with ⟨h0, h1⟩ | h1
            · rcases e4 n h1 with g | ⟨g1, g2⟩
              · refine Or.inl ?_
                show q.2 < many + (cw_ n w + n w)
                omega
              · refine Or.inr ⟨?_, ?_⟩
                · show q.2 = many + (cw_ n w + n w)
                  omega
                · show cd_ n w + n w * En w ≤ cd_ q.1 w + q.1 w * En w
                  rw [h0, hq]
                  omega
            · have g := d2 n h1
              rcases Nat.lt_or_eq_of_le g with g | g
              · exact Or.inl g
              · refine Or.inr ⟨g, ?_⟩
                show cd_ n w + n w * En w ≤ cd_ q.1 w + q.1 w * En w
                have g1 := pr_cd w _ hw (by omega) h1.2.2
                have g2 : (n w + 1) * En w ≤ q.1 w * En w := Nat.mul_le_mul_right _ (by omega)
                rw [Nat.succ_mul] at g2
                omega
      · refine Or.inr ⟨⟨⟨d1.1.1, by omega⟩, d1.2⟩, d2, fun p hp => ?_, fun n hn => ?_⟩
        · cases h9 : f (lo + k) b with
          | none =>
            have := (a1 h9).1
            rw [hp] at this
            cases this
          | some z =>
            have h1 := d3 z h9
            rcases a2 z h9 with ⟨e1, -⟩ | ⟨-, -, e3, -⟩
            · rw [hp] at e1
              cases e1
              exact h1
            · exact Nat.lt_trans h1 (e3 p hp)
        · rcases split n hn with ⟨h0, h1⟩ | h1
          · refine Or.inl ?_
            cases h9 : f (lo + k) b with
            | none => exact absurd h1 ((a1 h9).2 n)
            | some z =>
              have g1 := d3 z h9
              show q.2 < many + (cw_ n w + n w)
              rcases a2 z h9 with ⟨-, e2⟩ | ⟨-, -, -, e4⟩
              · have := e2 n h1; omega
              · rcases e4 n h1 with g | ⟨g, -⟩ <;> omega
          · exact d4 n h1
theorem tw_bst {st : Nat → Nat} : ∀ (w : Nat), w ≤ 5 → ∀ (tr : Nat → Nat) (rest many : Nat) (b : tw_B), rest ≤ 5000 → bst_ (rch_ st w tr rest) many w b (tw_ st w tr rest many b)
  | 0, _, tr, rest, many, b, hr => by
    have hS : ∀ n, rch_ st 0 tr rest n → n = tr ∧ rest = 0 := fun n h => ⟨funext (fun i => h.1 i (Nat.zero_le _)), h.2⟩
    unfold tw_
    by_cases h : rest = 0 ∧ (∀ q, b = some q → many < q.2)
    · rw [if_pos h]
      refine ⟨fun e => (by cases e), fun q e => ?_⟩
      cases e
      refine Or.inr ⟨⟨fun i _ => rfl, h.1⟩, rfl, fun p hp => h.2 p hp, fun n hn => Or.inr ⟨rfl, Nat.le_refl _⟩⟩
    · rw [if_neg h]
      refine ⟨fun e => ⟨e, fun n hn => h ⟨(hS n hn).2, fun q hq => by rw [e] at hq; cases hq⟩⟩, fun q e => Or.inl ⟨e, fun n hn => ?_⟩⟩
      show q.2 ≤ many + 0
      rcases Nat.lt_or_ge many q.2 with h1 | h1
      · exact absurd ⟨(hS n hn).2, fun q' hq' => by rw [e] at hq'; cases hq'; exact h1⟩ h
      · omega
  | w + 1, hw, tr, rest, many, b, hr => by
    have hl := tl_bst (st := st) (w := w) (by omega) (tr := tr) (rest := rest) (many := many) (lo := tmo_ st w rest - Sp w) hr (fun _ _ => Or.inr trivial) (fun t b' => tw_ st w (tu_ tr w t) (rest - t * Wt w) (many + t) b') (fun t b' => tw_bst w (by omega) (tu_ tr w t) (rest - t * Wt w) (many + t) b' (by omega)) (tmo_ st w rest - (tmo_ st w rest - Sp w) + 1) b
    have hS : ∀ n, rch_ st (w + 1) tr rest n ↔ ((tmo_ st w rest - Sp w ≤ n w ∧ n w < tmo_ st w rest - Sp w + (tmo_ st w rest - (tmo_ st w rest - Sp w) + 1)) ∧ rch_ st w (tu_ tr w (n w)) (rest - n w * Wt w) n) := by
      intro n
      rw [rch_eq]
      constructor
      · rintro ⟨h1, h2⟩
        exact ⟨⟨h1.1, by omega⟩, h2⟩
      · rintro ⟨h1, h2⟩
        exact ⟨⟨h1.1, by omega⟩, h2⟩
    have e : rch_ st (w + 1) tr rest = fun n => ((tmo_ st w rest - Sp w ≤ n w ∧ n w < tmo_ st w rest - Sp w + (tmo_ st w rest - (tmo_ st w rest - Sp w) + 1)) ∧ rch_ st w (tu_ tr w (n w)) (rest - n w * Wt w) n) := funext (fun n => propext (hS n))
    rw [e]
    exact hl
/-! what is fewest lies within what the search tries -/
def m5_ (a b c d e : Nat) : Nat → Nat := fun i => match i with | 0 => a | 1 => b | 2 => c | 3 => d | 4 => e | _ => 0
theorem tmo_lt {st : Nat → Nat} {w rest k : Nat} (h : k < tmo_ st w rest) : k + 1 ≤ st w ∧ (k + 1) * Wt w ≤ rest := by
  have h1 : k + 1 ≤ min (st w) (rest / Wt w) := h
  refine ⟨Nat.le_trans h1 (Nat.min_le_left _ _), Nat.le_trans (Nat.mul_le_mul_right _ (Nat.le_trans h1 (Nat.min_le_right _ _))) (Nat.div_mul_le_self _ _)⟩
theorem tmo_ge {st : Nat → Nat} {w rest k : Nat} (h1 : k ≤ st w) (h2 : k * Wt w ≤ rest) : k ≤ tmo_ st w rest := by
  refine Nat.le_min.mpr ⟨h1, ?_⟩
  exact (Nat.le_div_iff_mul_le (by have := Wt_b w; omega)).mpr h2
theorem fz_pr {st : Nat → Nat} {fee : Nat} {n : Nat → Nat} (h : fz_ st fee n) (hm : ∀ n', fz_ st fee n' → cnt_ n ≤ cnt_ n') : pr_ st n 5 fee := by
  obtain ⟨h0, h1, h2, h3, h4, hd⟩ := h
  unfold dot_ at hd
  have key : ∀ a b c d e, a ≤ st 0 → b ≤ st 1 → c ≤ st 2 → d ≤ st 3 → e ≤ st 4 → a + 2 * b + 5 * c + 10 * d + 50 * e = fee → n 0 + n 1 + n 2 + n 3 + n 4 ≤ a + b + c + d + e := fun a b c d e q0 q1 q2 q3 q4 q5 => hm (m5_ a b c d e) ⟨q0, q1, q2, q3, q4, q5⟩
  have r4 : fee - n 4 * 50 = n 0 + 2 * n 1 + 5 * n 2 + 10 * n 3 := by omega
  have r3 : n 0 + 2 * n 1 + 5 * n 2 + 10 * n 3 - n 3 * 10 = n 0 + 2 * n 1 + 5 * n 2 := by omega
  have r2 : n 0 + 2 * n 1 + 5 * n 2 - n 2 * 5 = n 0 + 2 * n 1 := by omega
  have r1 : n 0 + 2 * n 1 - n 1 * 2 = n 0 := by omega
  refine ⟨⟨?_, tmo_ge h4 (by show n 4 * 50 ≤ fee; omega)⟩, ?_⟩
  · show tmo_ st 4 fee - 1 ≤ n 4
    rcases Nat.lt_or_ge (n 4 + 1) (tmo_ st 4 fee) with g | g
    · exfalso
      obtain ⟨g1, g2⟩ := tmo_lt g
      change (n 4 + 1 + 1) * 50 ≤ fee at g2
      have g3 : 100 ≤ n 0 + 2 * n 1 + 5 * n 2 + 10 * n 3 := by omega
      rcases Nat.lt_or_ge (n 3) 5 with g4 | g4
      · obtain ⟨p, ep⟩ : ∃ p, p = min (n 2 / 2) (5 - n 3) := ⟨_, rfl⟩
        obtain ⟨q, eq⟩ : ∃ q, q = min (n 1) (5 * (5 - n 3 - p)) := ⟨_, rfl⟩
        have := key (n 0 - (10 * (5 - n 3 - p) - 2 * q)) (n 1 - q) (n 2 - 2 * p) 0 (n 4 + 1) (by omega) (by omega) (by omega) (by omega) (by omega) (by omega)
        omega
      · have := key (n 0) (n 1) (n 2) (n 3 - 5) (n 4 + 1) h0 h1 h2 (by omega) (by omega) (by omega)
        omega
    · omega
  show pr_ st n 4 (fee - n 4 * 50)
  rw [r4]
  refine ⟨⟨?_, tmo_ge h3 (by show n 3 * 10 ≤ _; omega)⟩, ?_⟩
  · show tmo_ st 3 _ - 2 ≤ n 3
    rcases Nat.lt_or_ge (n 3 + 2) (tmo_ st 3 (n 0 + 2 * n 1 + 5 * n 2 + 10 * n 3)) with g | g
    · exfalso
      obtain ⟨g1, g2⟩ := tmo_lt g
      change (n 3 + 2 + 1) * 10 ≤ _ at g2
      rcases Nat.lt_or_ge (n 2) 2 with g4 | g4
      · rcases Nat.lt_or_ge (n 1) 5 with g5 | g5
        · have := key (n 0 - 10) (n 1) (n 2) (n 3 + 1) (n 4) (by omega) h1 h2 (by omega) h4 (by omega)
          omega
        · have := key (n 0) (n 1 - 5) (n 2) (n 3 + 1) (n 4) h0 (by omega) h2 (by omega) h4 (by omega)
          omega
      · have := key (n 0) (n 1) (n 2 - 2) (n 3 + 1) (n 4) h0 h1 (by omega) (by omega) h4 (by omega)
        omega
    · omega
  show pr_ st n 3 (n 0 + 2 * n 1 + 5 * n 2 + 10 * n 3 - n 3 * 10)
  rw [r3]
  refine ⟨⟨?_, tmo_ge h2 (by show n 2 * 5 ≤ _; omega)⟩, ?_⟩
  · show tmo_ st 2 _ - 1 ≤ n 2
    rcases Nat.lt_or_ge (n 2 + 1) (tmo_ st 2 (n 0 + 2 * n 1 + 5 * n 2)) with g | g
    · exfalso
      obtain ⟨g1, g2⟩ := tmo_lt g
      change (n 2 + 1 + 1) * 5 ≤ _ at g2
      rcases Nat.eq_zero_or_pos (n 0) with g4 | g4
      · have := key (n 0) (n 1 - 5) (n 2 + 2) (n 3) (n 4) h0 (by omega) (by omega) h3 h4 (by omega)
        omega
      · rcases Nat.lt_or_ge (n 1) 2 with g5 | g5
        · rcases Nat.eq_zero_or_pos (n 1) with g6 | g6
          · have := key (n 0 - 5) (n 1) (n 2 + 1) (n 3) (n 4) (by omega) h1 (by omega) h3 h4 (by omega)
            omega
          · have := key (n 0 - 3) (n 1 - 1) (n 2 + 1) (n 3) (n 4) (by omega) (by omega) (by omega) h3 h4 (by omega)
            omega
        · have := key (n 0 - 1) (n 1 - 2) (n 2 + 1) (n 3) (n 4) (by omega) (by omega) (by omega) h3 h4 (by omega)
          omega
    · omega
  show pr_ st n 2 (n 0 + 2 * n 1 + 5 * n 2 - n 2 * 5)
  rw [r2]
  refine ⟨⟨?_, tmo_ge h1 (by show n 1 * 2 ≤ _; omega)⟩, ?_⟩
  · show tmo_ st 1 _ - 0 ≤ n 1
    rcases Nat.lt_or_ge (n 1) (tmo_ st 1 (n 0 + 2 * n 1)) with g | g
    · exfalso
      obtain ⟨g1, g2⟩ := tmo_lt g
      change (n 1 + 1) * 2 ≤ _ at g2
      have := key (n 0 - 2) (n 1 + 1) (n 2) (n 3) (n 4) (by omega) (by omega) h2 h3 h4 (by omega)
      omega
    · omega
  show pr_ st n 1 (n 0 + 2 * n 1 - n 1 * 2)
  rw [r1]
  refine ⟨⟨?_, tmo_ge h0 (by show n 0 * 1 ≤ _; omega)⟩, ?_⟩
  · show tmo_ st 0 (n 0) - 0 ≤ n 0
    have : tmo_ st 0 (n 0) ≤ n 0 / 1 := Nat.min_le_right _ _
    rw [Nat.div_one] at this
    omega
  show n 0 - n 0 * 1 = 0
  omega
theorem pr_fz {st : Nat → Nat} {fee : Nat} {n : Nat → Nat} (h : pr_ st n 5 fee) : fz_ st fee n := by
  have w4 := pr_le h
  have w3 := pr_le h.2
  have w2 := pr_le h.2.2
  have w1 := pr_le h.2.2.2
  have w0 := pr_le h.2.2.2.2
  have e := h.2.2.2.2.2
  refine ⟨Nat.le_trans h.2.2.2.2.1.2 (Nat.min_le_left _ _), Nat.le_trans h.2.2.2.1.2 (Nat.min_le_left _ _), Nat.le_trans h.2.2.1.2 (Nat.min_le_left _ _), Nat.le_trans h.2.1.2 (Nat.min_le_left _ _), Nat.le_trans h.1.2 (Nat.min_le_left _ _), ?_⟩
  change n 4 * 50 ≤ fee at w4
  change n 3 * 10 ≤ fee - n 4 * 50 at w3
  change n 2 * 5 ≤ fee - n 4 * 50 - n 3 * 10 at w2
  change n 1 * 2 ≤ fee - n 4 * 50 - n 3 * 10 - n 2 * 5 at w1
  change n 0 * 1 ≤ fee - n 4 * 50 - n 3 * 10 - n 2 * 5 - n 1 * 2 at w0
  change fee - n 4 * 50 - n 3 * 10 - n 2 * 5 - n 1 * 2 - n 0 * 1 = 0 at e
  unfold dot_
  omega
/-- the order in which the choice is made -/
def opt_ (st : Nat → Nat) (fee : Nat) (n : Nat → Nat) : Prop := fz_ st fee n ∧ ∀ n', fz_ st fee n' → cnt_ n < cnt_ n' ∨ (cnt_ n = cnt_ n' ∧ enc_ n' ≤ enc_ n)
theorem cwn_5 (n : Nat → Nat) : cw_ n 5 = cnt_ n := by
  show 0 + n 0 + n 1 + n 2 + n 3 + n 4 = _
  unfold cnt_
  omega
theorem cd_5 (n : Nat → Nat) : cd_ n 5 = enc_ n := by
  show 0 + n 0 * 0 + n 1 * 1 + n 2 * 4096 + n 3 * 4194304 + n 4 * 2147483648 = _
  unfold enc_
  omega
theorem fz_z {st : Nat → Nat} {fee : Nat} {n : Nat → Nat} (h : fz_ st fee n) : fz_ st fee (m5_ (n 0) (n 1) (n 2) (n 3) (n 4)) := h
theorem dfs_ok {st : Nat → Nat} {fee : Nat} (hf : fee ≤ 5000) : (tw_ st 5 (fun _ => 0) fee 0 none = none → ∀ n, ¬ fz_ st fee n) ∧ ∀ q, tw_ st 5 (fun _ => 0) fee 0 none = some q → opt_ st fee q.1 ∧ q.2 = cnt_ q.1 := by
  obtain ⟨a1, a2⟩ := tw_bst (st := st) 5 (Nat.le_refl _) (fun _ => 0) fee 0 none hf
  -- a least one is reached
  have least : ∀ n, fz_ st fee n → (∀ n', fz_ st fee n' → cnt_ n ≤ cnt_ n') → rch_ st 5 (fun _ => 0) fee (m5_ (n 0) (n 1) (n 2) (n 3) (n 4)) := fun n hn hm => ⟨fun i hi => by
    obtain ⟨j, rfl⟩ : ∃ j, i = j + 5 := ⟨i - 5, by omega⟩
    rfl, fz_pr (fz_z hn) hm⟩
  have ex : (∃ n, fz_ st fee n) → ∃ n, fz_ st fee n ∧ ∀ n', fz_ st fee n' → cnt_ n ≤ cnt_ n' := by
    rintro ⟨n, hn⟩
    obtain ⟨k, ⟨m, hm1, hm2⟩, hk⟩ := pk_least (fun k => ∃ n, fz_ st fee n ∧ cnt_ n = k) ⟨cnt_ n, n, hn, rfl⟩
    refine ⟨m, hm1, fun n' hn' => ?_⟩
    rcases Nat.lt_or_ge (cnt_ n') (cnt_ m) with h | h
    · exact absurd ⟨n', hn', rfl⟩ (hk _ (by omega))
    · exact h
  refine ⟨fun h n hn => ?_, fun q h => ?_⟩
  · obtain ⟨m, m1, m2⟩ := ex ⟨n, hn⟩
    exact (a1 h).2 _ (least m m1 m2)
  · rcases a2 q h with ⟨h1, -⟩ | ⟨h1, h2, -, h4⟩
    · cases h1
    · have hq := pr_fz h1.2
      rw [cwn_5, Nat.zero_add] at h2
      obtain ⟨m, m1, m2⟩ := ex ⟨_, hq⟩
      have hcm : cnt_ (m5_ (m 0) (m 1) (m 2) (m 3) (m 4)) = cnt_ m := rfl
      have hle : cnt_ q.1 ≤ cnt_ m := by
        rcases h4 _ (least m m1 m2) with g | ⟨g, -⟩ <;> (rw [cwn_5, Nat.zero_add] at g; rw [hcm] at g; omega)
      refine ⟨⟨hq, fun n' hn' => ?_⟩, h2⟩
      have h5 := m2 n' hn'
      rcases Nat.lt_or_ge (cnt_ q.1) (cnt_ n') with g | g
      · exact Or.inl g
      · have h6 : cnt_ q.1 = cnt_ n' := by omega
        refine Or.inr ⟨h6, ?_⟩
        have hr := least n' hn' (fun z hz => by have := m2 z hz; omega)
        rcases h4 _ hr with g2 | ⟨-, g2⟩
        · rw [cwn_5, Nat.zero_add] at g2
          exact absurd g2 (by show ¬ q.2 < cnt_ n'; omega)
        · rw [cd_5, cd_5] at g2
          exact g2
