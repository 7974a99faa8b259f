/-! the pure reading, over tokens -/
abbrev ps_T : Type := Int32 × Int32 × Int32
def ps_test (K V : Nat → Int32) (c i : Nat) : (Int32 × Nat) ⊕ (ps_T × Nat) :=
  if ¬ pn_ (K i) = 0 then .inl (pn_ (K i), i) else if c = 4 then .inl (4, i) else if ¬ (K (i + 1) = 60 ∨ K (i + 1) = 62 ∨ K (i + 1) = 61) then .inl (1, i + 1) else if ¬ K (i + 2) = 2 then .inl (1, i + 2) else .inr ((K i, K (i + 1), V (i + 2)), i + 3)
def ps_div (K V : Nat → Int32) (fa nm : Int32) (j : Nat) : (Int32 × Nat) ⊕ (ps_T × Nat) :=
  if ¬ K j = 47 then .inr ((fa, nm, 1), j) else if ¬ K (j + 1) = 2 then .inl (1, j + 1) else if V (j + 1) = 0 then .inl (3, j + 1) else .inr ((fa, nm, V (j + 1)), j + 2)
def ps_term (K V : Nat → Int32) (c i : Nat) : (Int32 × Nat) ⊕ (ps_T × Nat) :=
  if K i = 2 then (if c = 4 then .inl (4, i) else if ¬ K (i + 1) = 42 then .inr ((V i, 12, 1), i + 1) else if ¬ pn_ (K (i + 2)) = 0 then .inl (pn_ (K (i + 2)), i + 2) else ps_div K V (V i) (K (i + 2)) (i + 3))
  else if ¬ pn_ (K i) = 0 then .inl (pn_ (K i), i) else if c = 4 then .inl (4, i) else ps_div K V 1 (K i) (i + 1)
/-- a run of tests or of terms, with the sign s between them -/
def ps_run (f : Nat → Nat → (Int32 × Nat) ⊕ (ps_T × Nat)) (K : Nat → Int32) (s : Int32) : Nat → Nat → Nat → (Int32 × Nat) ⊕ (List ps_T × Nat)
  | 0, _, i => .inl (4, i)
  | r + 1, c, i => match f c i with
    | .inl q => .inl q
    | .inr (t, j) => if K j = s then (match ps_run f K s r (c + 1) (j + 1) with
      | .inl q => .inl q
      | .inr (ts, j') => .inr (t :: ts, j')) else .inr ([t], j)
abbrev ps_L : Type := Int32 × List ps_T × List ps_T
def ps_line (K V : Nat → Int32) (a i : Nat) : (Int32 × Nat) ⊕ (ps_L × Nat) :=
  if ¬ K i = 4 then .inl (1, i) else if a = 12 then .inl (4, i) else if ¬ K (i + 1) = 2 then .inl (1, i + 1) else if 9 < V (i + 1) then .inl (3, i + 1) else
  match (if K (i + 2) = 5 then ps_run (ps_test K V) K 6 5 0 (i + 3) else .inr ([], i + 2)) with
  | .inl q => .inl q
  | .inr (ts, j) => if ¬ K j = 7 then .inl (1, j) else match ps_run (ps_term K V) K 43 5 0 (j + 1) with
    | .inl q => .inl q
    | .inr (tm, j') => .inr ((V (i + 1), ts, tm), j')
def ps_lines (K V : Nat → Int32) : Nat → Nat → Nat → (Int32 × Nat) ⊕ List ps_L
  | 0, _, i => .inl (4, i)
  | r + 1, a, i => match ps_line K V a i with
    | .inl q => .inl q
    | .inr (ln, j) => if K j = 59 then (match ps_lines K V r (a + 1) (j + 1) with
      | .inl q => .inl q
      | .inr ls => .inr (ln :: ls)) else if K j = 0 then .inr [ln] else .inl (1, j)
/-! the reference over a stream of tokens -/
def stm_ (b : Nat → Int32) (n m : Nat) (K L V : Nat → Int32) (P : Nat → Nat) : Prop := n ≤ 300 ∧ (∀ i, i ≤ m → tz_ b n (P i) (K i) (L i) (V i) (P (i + 1)) ∧ P i ≤ n) ∧ K m = 0
def rat_ (b : Nat → Int32) (n : Nat) (K L V : Nat → Int32) (P : Nat → Nat) (M : mm_M) (y i : Nat) : Prop := mdl_ M y ∧ mm_I M y 7 = nI n ∧ md_by M y n = b ∧ tkm_ M y (K i) (L i) (V i) ∧ (¬ K i = 1 → mm_I M y 8 = nI (P (i + 1)))
def pfx_ (X : Nat → Nat → Prop) (M M' : mm_M) (y : Nat) : Prop := M'.1 = M.1 ∧ M'.2.2.2 = M.2.2.2 ∧ (∀ a j, ¬ X a j → mm_I M' a j = mm_I M a j) ∧ ∀ a j, ¬ (a = y ∧ j = 13) → mm_L M' a j = mm_L M a j
theorem pfx_rf (X : Nat → Nat → Prop) (M : mm_M) (y : Nat) : pfx_ X M M y := ⟨rfl, rfl, fun _ _ _ => rfl, fun _ _ _ => rfl⟩
theorem pfx_tr {X : Nat → Nat → Prop} {M M' M2 : mm_M} {y : Nat} (h : pfx_ X M M' y) (g : pfx_ X M' M2 y) : pfx_ X M M2 y := ⟨g.1.trans h.1, g.2.1.trans h.2.1, fun a j q => (g.2.2.1 a j q).trans (h.2.2.1 a j q), fun a j q => (g.2.2.2 a j q).trans (h.2.2.2 a j q)⟩
theorem pfx_mono {X Z : Nat → Nat → Prop} {M M' : mm_M} {y : Nat} (h : pfx_ X M M' y) (hX : ∀ a j, X a j → Z a j) : pfx_ Z M M' y := ⟨h.1, h.2.1, fun a j q => h.2.2.1 a j (fun g => q (hX a j g)), h.2.2.2⟩
theorem pfx_I {X : Nat → Nat → Prop} {M M' : mm_M} {y a k : Nat} {v : Int32} (h : pfx_ X M M' y) (hX : X a k) : pfx_ X M (mm_sI M' a k v) y := by
  refine ⟨h.1, h.2.1, fun c j q => ?_, h.2.2.2⟩
  rw [mm_I_sI, if_neg (fun g => q (by rw [g.1, g.2]; exact hX))]
  exact h.2.2.1 c j q
theorem pfx_tk {X : Nat → Nat → Prop} {M M' M2 : mm_M} {y : Nat} (h : pfx_ X M M' y) (g : tkf_ M' M2 y) (hX : ∀ j, 8 ≤ j → j ≤ 12 → X y j) : pfx_ X M M2 y := ⟨g.1.trans h.1, g.2.1.trans h.2.1, fun a j q => (g.2.2.1 a j (fun e => q (by rw [e.1]; exact hX j e.2.1 e.2.2))).trans (h.2.2.1 a j q), fun a j q => (g.2.2.2 a j q).trans (h.2.2.2 a j q)⟩
theorem pfx_mdl {X : Nat → Nat → Prop} {M M' : mm_M} {y : Nat} (h : pfx_ X M M' y) (hY : mdl_ M y) : mdl_ M' y := by
  obtain ⟨M1, MI, ML, M2⟩ := M
  obtain ⟨N1, NI, NL, N2⟩ := M'
  obtain ⟨h1, h2, -, -⟩ := h
  cases h1
  cases h2
  exact hY
theorem pfx_stp {X : Nat → Nat → Prop} {M M' : mm_M} {y : Nat} {c l : Int32} (h : pfx_ X M M' y) (hX : ∀ j, X (y + 1) j) : pfx_ X M (stp_ M' y c l) y := pfx_I (pfx_I h (hX 6)) (hX 7)
def spd_ (M : mm_M) (y : Nat) (c l : Int32) : Prop := mm_I M (y + 1) 6 = c ∧ mm_I M (y + 1) 7 = l
theorem spd_of (M : mm_M) (y : Nat) (c l : Int32) : spd_ (stp_ M y c l) y c l := ⟨by unfold stp_; simp [mm_I_sI], by unfold stp_; simp [mm_I_sI]⟩
theorem rat_I {b : Nat → Int32} {n : Nat} {K L V : Nat → Int32} {P : Nat → Nat} {M : mm_M} {y i a k : Nat} {v : Int32} (h : rat_ b n K L V P M y i) (h1 : a ≠ y) (h2 : a ≠ y + 2) : rat_ b n K L V P (mm_sI M a k v) y i := by
  obtain ⟨q1, q2, q3, q4, q5⟩ := h
  have e1 : ∀ j, mm_I (mm_sI M a k v) y j = mm_I M y j := fun j => mI_na _ _ _ _ _ _ (Ne.symm h1)
  refine ⟨q1, (e1 7).trans q2, ?_, ?_, fun h => (e1 8).trans (q5 h)⟩
  · rw [← q3]
    funext j
    unfold md_by
    rw [mI_na _ _ _ _ _ _ (Ne.symm h2)]
  · unfold tkm_
    rw [e1 9, e1 10, e1 11, e1 12]
    exact q4
theorem kp_next {G : mm_G} {d : Nat} {Q : Option Value → mm_M → Prop} {M : mm_M} {y i : Nat} {b : Nat → Int32} {n m : Nat} {K L V : Nat → Int32} {P : Nat → Nat} (hs : stm_ b n m K L V P) (hr : rat_ b n K L V P M y i) (h1 : ¬ K i = 1) (h0 : ¬ K i = 0) (hi : i ≤ m) (hQ : ∀ M', tkf_ M M' y → rat_ b n K L V P M' y (i + 1) → Q none M') : ma_ G jX12_next (d + 1) 0 0 [.ref y] M Q := by
  obtain ⟨q1, q2, q3, q4, q5⟩ := hr
  have him : i + 1 ≤ m := by
    have : i ≠ m := fun e => h0 (by rw [e]; exact hs.2.2)
    omega
  obtain ⟨t1, t2⟩ := hs.2.1 (i + 1) him
  rw [← q3] at t1
  refine kt_next n (P (i + 1)) q1 q2 hs.1 (q5 h1) t2 t1 (fun M' hf ht h8 => hQ M' hf ⟨tkf_mdl hf q1, (tkf_i hf (by omega)).trans q2, ?_, ht, h8⟩)
  rw [← q3]
  funext j
  exact tkf_by hf
theorem kp_lt {b : Nat → Int32} {n m : Nat} {K L V : Nat → Int32} {P : Nat → Nat} {i : Nat} (hs : stm_ b n m K L V P) (hi : i ≤ m) (h0 : ¬ K i = 0) : i + 1 ≤ m := by
  have : i ≠ m := fun e => h0 (by rw [e]; exact hs.2.2)
  omega
theorem pn_0 {k : Int32} (h : pn_ k = 0) : ¬ k = 0 ∧ ¬ k = 1 ∧ ¬ k = 2 := by
  refine ⟨fun e => ?_, fun e => ?_, fun e => ?_⟩ <;> (subst e; exact absurd h (by decide))
/-- what the reading of a test, or of a term, of the line l may change, c of them there -/
def xt_ (y l c a j : Nat) : Prop := (a = y ∧ 8 ≤ j ∧ j ≤ 12) ∨ a = y + 1 ∨ (a = y + 6 ∧ j = l) ∨ (y + 8 ≤ a ∧ a ≤ y + 10 ∧ 4 * l + c ≤ j ∧ j < 4 * l + 4)
def xm_ (y l c a j : Nat) : Prop := (a = y ∧ 8 ≤ j ∧ j ≤ 12) ∨ a = y + 1 ∨ (a = y + 7 ∧ j = l) ∨ (y + 11 ≤ a ∧ a ≤ y + 13 ∧ 4 * l + c ≤ j ∧ j < 4 * l + 4)
theorem xt_y (y l c : Nat) : ∀ j, 8 ≤ j → j ≤ 12 → xt_ y l c y j := fun j h1 h2 => Or.inl ⟨rfl, h1, h2⟩
theorem xm_y (y l c : Nat) : ∀ j, 8 ≤ j → j ≤ 12 → xm_ y l c y j := fun j h1 h2 => Or.inl ⟨rfl, h1, h2⟩
theorem xt_1 (y l c : Nat) : ∀ j, xt_ y l c (y + 1) j := fun j => Or.inr (Or.inl rfl)
theorem xm_1 (y l c : Nat) : ∀ j, xm_ y l c (y + 1) j := fun j => Or.inr (Or.inl rfl)
/-- a test, a term of the reference -/
def rt_ (M : mm_M) (y k : Nat) (t : ps_T) : Prop := mm_I M (y + 8) k = t.1 - 8 ∧ mm_I M (y + 9) k = t.2.1 ∧ mm_I M (y + 10) k = t.2.2
def rm_ (M : mm_M) (y k : Nat) (t : ps_T) : Prop := mm_I M (y + 12) k = t.1 ∧ mm_I M (y + 11) k = (if t.2.1 = 12 then -1 else t.2.1 - 8) ∧ mm_I M (y + 13) k = t.2.2

theorem tk_num {M : mm_M} {y : Nat} {k l v : Int32} (ht : tkm_ M y k l v) (h : k = 2) : mm_I M y 9 = 3 ∧ mm_I M y 12 = v := by
  subst h
  rcases ht.2 with ⟨h, -⟩ | ⟨h, -⟩ | ⟨-, h⟩ | ⟨⟨i, hi, h⟩, -⟩ | ⟨h, -⟩
  · exact absurd h (by decide)
  · exact absurd h (by decide)
  · exact h
  · have : ∀ i, i < 9 → ¬ (2 : Int32) = nI (3 + i) := by decide +kernel
    exact absurd h (this i hi)
  · exact absurd h (by unfold sg_; decide)
theorem tk_k2 {M : mm_M} {y : Nat} {k l v : Int32} (ht : tkm_ M y k l v) (h : mm_I M y 9 = 3) : k = 2 := by
  rcases ht.2 with ⟨-, h2⟩ | ⟨-, h2⟩ | ⟨h2, -⟩ | ⟨-, h2, -⟩ | ⟨-, h2, -⟩
  · rw [h] at h2; exact absurd h2 (by decide)
  · rw [h] at h2; exact absurd h2 (by decide)
  · exact h2
  · rw [h] at h2; exact absurd h2 (by decide)
  · rw [h] at h2; exact absurd h2 (by decide)
theorem tk_sgn {M : mm_M} {y : Nat} {k l v : Int32} (ht : tkm_ M y k l v) (h : sg_ k) : mm_I M y 11 = k := by
  obtain ⟨s1, s2, s3, s4⟩ := sg_k h
  rcases ht.2 with ⟨h2, -⟩ | ⟨h2, -⟩ | ⟨h2, -⟩ | ⟨⟨i, hi, h2⟩, -⟩ | ⟨-, -, h2⟩
  · exact absurd h2 s1
  · exact absurd h2 s2
  · exact absurd h2 s3
  · exact absurd h2 (s4 i hi)
  · exact h2
theorem tk_end {M : mm_M} {y : Nat} {k l v : Int32} (ht : tkm_ M y k l v) : mm_I M y 9 = 1 ↔ k = 0 := by
  rcases ht.2 with ⟨h2, h⟩ | ⟨h2, h⟩ | ⟨h2, h, -⟩ | ⟨⟨i, hi, h2⟩, h, -⟩ | ⟨h2, h, -⟩ <;> rw [h]
  · exact ⟨fun _ => h2, fun _ => rfl⟩
  · subst h2; decide
  · subst h2; decide
  · subst h2
    have : ∀ i, i < 9 → ¬ nI (3 + i) = 0 := by decide +kernel
    exact ⟨fun e => absurd e (by decide), fun e => absurd e (this i hi)⟩
  · exact ⟨fun e => absurd e (by decide), fun e => absurd e (sg_k h2).1⟩

theorem k_X12_readTest {G : mm_G} {d : Nat} {Q : Option Value → mm_M → Prop} {M : mm_M} {y i l c : Nat} {b : Nat → Int32} {n m : Nat} {K L V : Nat → Int32} {P : Nat → Nat} (f : Nat) (hcs : G.2.2.2.1 3 = .int 1) (hsf : G.2.2.2.1 6 = va_rn f) (hs : stm_ b n m K L V P) (hi : i ≤ m) (hr : rat_ b n K L V P M y (i)) (hl : l < 372) (hc4 : c ≤ 4) (hc : mm_I M (y + 6) l = nI c)
    (hF : ∀ (q : Int32) (j : Nat) (M' : mm_M), ps_test K V c i = .inl (q, j) → pfx_ (xt_ y l c) M M' y → spd_ M' y q (L j) → Q (some (.retAddr (y + 1))) M')
    (hO : ∀ (t : ps_T) (j : Nat) (M' : mm_M), ps_test K V c i = .inr (t, j) → c < 4 → j ≤ m → pfx_ (xt_ y l c) M M' y → rat_ b n K L V P M' y (j) → mm_I M' (y + 6) l = nI (c + 1) → rt_ M' y (4 * l + c) t → Q none M') : mx_ G jX12_readTest (d + 7) 0 0 [.ref y, .int (nI l)] M Q := by
  refine mx_of [some (.ref y), some (.int (nI l)), none, none] (by decide) rfl (Nat.le_of_ble_eq_true rfl) ?_
  have seg3 : c < 4 → i + 3 ≤ m → ∀ (t : ps_T) (M3 : mm_M), ps_test K V c i = .inr (t, i + 3) → pfx_ (xt_ y l c) M M3 y → rat_ b n K L V P M3 y (i + 3) → mm_I M3 (y + 6) l = nI c → rt_ M3 y (4 * l + c) t → wa_ 2 G jX12_readTest (d + 7) 0 0 Q 0 0 M3 118 [some (.ref y), some (.int (nI l)), some (.int (K i - 8)), some (.int (nI (4 * l + c)))] [] := by
    intro c4 i3 t M3 he hp h3 h6 ht
    have hY3 := h3.1
    refine wa_aload_n dX12_readTest_118 rfl rfl ?_
    refine wa_getR (q := (RX12, TX12, 50)) (ci := 12) (k := 18) dX12_readTest_119 rfl (by decide) wf_X12_34 hY3.1 rfl (md_r18 hY3) ?_
    refine wa_iload_n dX12_readTest_122 rfl ?_
    refine wa_dup2 dX12_readTest_123 rfl rfl ?_
    refine wa_ialdN dX12_readTest_124 (md_s18 hY3) (Or.inl rfl) (by omega) (by decide) ?_
    rw [h6]
    refine wa_iconst (v := 1) dX12_readTest_125 (by decide) ?_
    refine wa_iadd dX12_readTest_126 ?_
    rw [show nI c + 1 = nI (c + 1) from ni_i1 c]
    refine wa_iastN dX12_readTest_127 (md_s18 hY3) (by omega) (by decide) ?_
    exact wx_of0 (wa_vret dX12_readTest_128 rfl ⟨hO t (i + 3) _ he c4 i3 (pfx_I hp (Or.inr (Or.inr (Or.inl ⟨rfl, rfl⟩)))) (rat_I h3 (by omega) (by omega)) (mI_eq _ _ _ _) ⟨(mI_na _ _ _ _ _ _ (by omega)).trans ht.1, (mI_na _ _ _ _ _ _ (by omega)).trans ht.2.1, (mI_na _ _ _ _ _ _ (by omega)).trans ht.2.2⟩, fun a h => by cases h⟩)
  have seg2 : c < 4 → pn_ (K i) = 0 → (K (i + 1) = 60 ∨ K (i + 1) = 62 ∨ K (i + 1) = 61) → i + 2 ≤ m → ∀ M2 : mm_M, pfx_ (xt_ y l c) M M2 y → rat_ b n K L V P M2 y (i + 2) → mm_I M2 (y + 6) l = nI c → mm_I M2 (y + 8) (4 * l + c) = K i - 8 → mm_I M2 (y + 9) (4 * l + c) = K (i + 1) → wa_ 2 G jX12_readTest (d + 7) 0 0 Q 0 0 M2 90 [some (.ref y), some (.int (nI l)), some (.int (K i - 8)), some (.int (nI (4 * l + c)))] [] := by
    intro c4 hp0 hk1 i2 M2 hp h2 h6 h8 h9
    have hY3 := h2.1
    refine wa_aload_n dX12_readTest_90 rfl rfl ?_
    refine wa_getI (q := (RX12, TX12, 50)) (ci := 12) (k := 9) dX12_readTest_91 rfl (by decide) wf_X12_157 hY3.1 rfl ?_
    refine wa_iconst (v := 3) dX12_readTest_94 (by decide) ?_
    refine wa_icmp_eq (tgt := 104) dX12_readTest_95 (by decide) (fun hT95 => ?_) (fun hF95 => ?_)
    · have hk2 : K (i + 2) = 2 := tk_k2 h2.2.2.2.1 hT95
      have hn2 := (tk_num h2.2.2.2.1 hk2).2
      refine wa_aload_n dX12_readTest_104 rfl rfl ?_
      refine wa_getR (q := (RX12, TX12, 50)) (ci := 12) (k := 22) dX12_readTest_105 rfl (by decide) wf_X12_46 hY3.1 rfl (md_r22 hY3) ?_
      refine wa_iload_n dX12_readTest_108 rfl ?_
      refine wa_aload_n dX12_readTest_109 rfl rfl ?_
      refine wa_getI (q := (RX12, TX12, 50)) (ci := 12) (k := 12) dX12_readTest_110 rfl (by decide) wf_X12_174 hY3.1 rfl ?_
      rw [hn2]
      refine wa_iastN dX12_readTest_113 (md_s22 hY3) (by omega) (by decide) ?_
      refine wa_aload_n dX12_readTest_114 rfl rfl ?_
      refine wa_callV (q := (RX12, TX12, 50)) (As := []) dX12_readTest_115 lk_X12_204 rfl rfl hY3.1 rfl rfl (Nat.le_of_ble_eq_true rfl) (Nat.le_of_eq (Nat.zero_add _)) (Nat.le_of_eq (Nat.zero_add _)) (kp_next hs (rat_I h2 (by omega) (by omega)) (by rw [hk2]; decide) (by rw [hk2]; decide) i2 (fun M3 hf3 hr3 => ?_))
      exact seg3 c4 (kp_lt hs i2 (by rw [hk2]; decide)) (K i, K (i + 1), V (i + 2)) M3 (by simp [ps_test, hp0, hk1, hk2, Nat.ne_of_lt c4]) (pfx_tk (pfx_I hp (Or.inr (Or.inr (Or.inr ⟨by omega, by omega, by omega, by omega⟩)))) hf3 (xt_y y l c)) hr3 ((tkf_i hf3 (by omega)).trans ((mI_na _ _ _ _ _ _ (by omega)).trans h6)) ⟨(tkf_i hf3 (by omega)).trans ((mI_na _ _ _ _ _ _ (by omega)).trans h8), (tkf_i hf3 (by omega)).trans ((mI_na _ _ _ _ _ _ (by omega)).trans h9), (tkf_i hf3 (by omega)).trans (mI_eq _ _ _ _)⟩
    · have hk2 : ¬ K (i + 2) = 2 := fun e => hF95 (tk_num h2.2.2.2.1 e).1
      refine wa_aload_n dX12_readTest_98 rfl rfl ?_
      refine wa_iconst (v := 1) dX12_readTest_99 (by decide) ?_
      refine wa_callV (q := (RX12, TX12, 50)) (As := [.int 1]) dX12_readTest_100 lk_X12_192 rfl rfl hY3.1 rfl rfl (Nat.le_of_ble_eq_true rfl) (Nat.le_of_eq (Nat.zero_add _)) (Nat.le_of_eq (Nat.zero_add _)) (k_X12_stop 1 h2.1 ?_)
      exact wx_throw dX12_readTest_103 wd_X12_readTest (by decide) (by rw [h2.2.2.2.1.1]; exact hF 1 (i + 2) _ (by simp [ps_test, hp0, hk1, hk2, Nat.ne_of_lt c4]) (pfx_stp hp (xt_1 y l c)) (spd_of _ _ _ _))
  have seg1 : c < 4 → pn_ (K i) = 0 → i + 1 ≤ m → ∀ M1 : mm_M, pfx_ (xt_ y l c) M M1 y → rat_ b n K L V P M1 y (i + 1) → mm_I M1 (y + 6) l = nI c → mm_I M1 (y + 8) (4 * l + c) = K i - 8 → wa_ 2 G jX12_readTest (d + 7) 0 0 Q 0 0 M1 43 [some (.ref y), some (.int (nI l)), some (.int (K i - 8)), some (.int (nI (4 * l + c)))] [] := by
    intro c4 hp0 i1 M1 hp h1 h6 h8
    have hY3 := h1.1
    have ok : (K (i + 1) = 60 ∨ K (i + 1) = 62 ∨ K (i + 1) = 61) → wa_ 2 G jX12_readTest (d + 7) 0 0 Q 0 0 M1 76 [some (.ref y), some (.int (nI l)), some (.int (K i - 8)), some (.int (nI (4 * l + c)))] [] := by
      intro hk
      have hsn := tk_sgn h1.2.2.2.1 (by rcases hk with e | e | e <;> (rw [e]; unfold sg_; decide))
      refine wa_aload_n dX12_readTest_76 rfl rfl ?_
      refine wa_getR (q := (RX12, TX12, 50)) (ci := 12) (k := 21) dX12_readTest_77 rfl (by decide) wf_X12_43 hY3.1 rfl (md_r21 hY3) ?_
      refine wa_iload_n dX12_readTest_80 rfl ?_
      refine wa_aload_n dX12_readTest_81 rfl rfl ?_
      refine wa_getI (q := (RX12, TX12, 50)) (ci := 12) (k := 11) dX12_readTest_82 rfl (by decide) wf_X12_160 hY3.1 rfl ?_
      rw [hsn]
      refine wa_iastN dX12_readTest_85 (md_s21 hY3) (by omega) (by decide) ?_
      refine wa_aload_n dX12_readTest_86 rfl rfl ?_
      refine wa_callV (q := (RX12, TX12, 50)) (As := []) dX12_readTest_87 lk_X12_204 rfl rfl hY3.1 rfl rfl (Nat.le_of_ble_eq_true rfl) (Nat.le_of_eq (Nat.zero_add _)) (Nat.le_of_eq (Nat.zero_add _)) (kp_next hs (rat_I h1 (by omega) (by omega)) (by rcases hk with e | e | e <;> (rw [e]; decide)) (by rcases hk with e | e | e <;> (rw [e]; decide)) i1 (fun M2 hf2 hr2 => ?_))
      exact seg2 c4 hp0 hk (kp_lt hs i1 (by rcases hk with e | e | e <;> (rw [e]; decide))) M2 (pfx_tk (pfx_I hp (Or.inr (Or.inr (Or.inr ⟨by omega, by omega, by omega, by omega⟩)))) hf2 (xt_y y l c)) hr2 ((tkf_i hf2 (by omega)).trans ((mI_na _ _ _ _ _ _ (by omega)).trans h6)) ((tkf_i hf2 (by omega)).trans ((mI_na _ _ _ _ _ _ (by omega)).trans h8)) ((tkf_i hf2 (by omega)).trans (mI_eq _ _ _ _))
    refine wa_aload_n dX12_readTest_43 rfl rfl ?_
    refine wa_bipush (v := 60) dX12_readTest_44 (by decide) ?_
    refine wa_callV (q := (RX12, TX12, 50)) (As := [.int 60]) dX12_readTest_46 lk_X12_214 rfl rfl hY3.1 rfl rfl (Nat.le_of_ble_eq_true rfl) (Nat.le_of_eq (Nat.zero_add _)) (Nat.le_of_eq (Nat.zero_add _)) (kt_is 60 h1.1 (by unfold sg_; decide) h1.2.2.2.1 (fun hk1 => ?_) (fun hk1 => ?_))
    · refine wa_if_ne (tgt := 76) dX12_readTest_49 (by decide) (fun _ => ?_) (fun h9 => absurd h9 (by decide))
      exact ok (by first | exact Or.inl hk1 | exact Or.inr (Or.inl hk2) | exact Or.inr (Or.inr hk3))
    · refine wa_if_ne (tgt := 76) dX12_readTest_49 (by decide) (fun h9 => absurd h9 (by decide)) (fun _ => ?_)
      refine wa_aload_n dX12_readTest_52 rfl rfl ?_
      refine wa_bipush (v := 62) dX12_readTest_53 (by decide) ?_
      refine wa_callV (q := (RX12, TX12, 50)) (As := [.int 62]) dX12_readTest_55 lk_X12_214 rfl rfl hY3.1 rfl rfl (Nat.le_of_ble_eq_true rfl) (Nat.le_of_eq (Nat.zero_add _)) (Nat.le_of_eq (Nat.zero_add _)) (kt_is 62 h1.1 (by unfold sg_; decide) h1.2.2.2.1 (fun hk2 => ?_) (fun hk2 => ?_))
      · refine wa_if_ne (tgt := 76) dX12_readTest_58 (by decide) (fun _ => ?_) (fun h9 => absurd h9 (by decide))
        exact ok (by first | exact Or.inl hk1 | exact Or.inr (Or.inl hk2) | exact Or.inr (Or.inr hk3))
      · refine wa_if_ne (tgt := 76) dX12_readTest_58 (by decide) (fun h9 => absurd h9 (by decide)) (fun _ => ?_)
        refine wa_aload_n dX12_readTest_61 rfl rfl ?_
        refine wa_bipush (v := 61) dX12_readTest_62 (by decide) ?_
        refine wa_callV (q := (RX12, TX12, 50)) (As := [.int 61]) dX12_readTest_64 lk_X12_214 rfl rfl hY3.1 rfl rfl (Nat.le_of_ble_eq_true rfl) (Nat.le_of_eq (Nat.zero_add _)) (Nat.le_of_eq (Nat.zero_add _)) (kt_is 61 h1.1 (by unfold sg_; decide) h1.2.2.2.1 (fun hk3 => ?_) (fun hk3 => ?_))
        · refine wa_if_ne (tgt := 76) dX12_readTest_67 (by decide) (fun _ => ?_) (fun h9 => absurd h9 (by decide))
          exact ok (by first | exact Or.inl hk1 | exact Or.inr (Or.inl hk2) | exact Or.inr (Or.inr hk3))
        · refine wa_if_ne (tgt := 76) dX12_readTest_67 (by decide) (fun h9 => absurd h9 (by decide)) (fun _ => ?_)
          refine wa_aload_n dX12_readTest_70 rfl rfl ?_
          refine wa_iconst (v := 1) dX12_readTest_71 (by decide) ?_
          refine wa_callV (q := (RX12, TX12, 50)) (As := [.int 1]) dX12_readTest_72 lk_X12_192 rfl rfl hY3.1 rfl rfl (Nat.le_of_ble_eq_true rfl) (Nat.le_of_eq (Nat.zero_add _)) (Nat.le_of_eq (Nat.zero_add _)) (k_X12_stop 1 h1.1 ?_)
          exact wx_throw dX12_readTest_75 wd_X12_readTest (by decide) (by rw [h1.2.2.2.1.1]; exact hF 1 (i + 1) _ (by simp [ps_test, hp0, hk1, hk2, hk3, Nat.ne_of_lt c4]) (pfx_stp hp (xt_1 y l c)) (spd_of _ _ _ _))
  refine wa_aload_n dX12_readTest_0 rfl rfl ?_
  refine wx_callV (q := (RX12, TX12, 50)) (As := []) dX12_readTest_1 lk_X12_216 rfl rfl hr.1.1 rfl rfl (Nat.le_of_ble_eq_true rfl) (Nat.le_of_eq (Nat.zero_add _)) (Nat.le_of_eq (Nat.zero_add _)) wd_X12_readTest (by decide) (k_X12_nameHere f hcs hsf hr.1 hr.2.2.2.1 (fun q hq hq0 => ?_) (fun hq0 => ?_))
  · exact hF q i _ (by simp [ps_test, hq, hq0]) (pfx_stp (pfx_rf _ _ _) (xt_1 y l c)) (spd_of _ _ _ _)
  · refine wa_istore_n dX12_readTest_4 (by decide) rfl rfl ?_
    refine wa_aload_n dX12_readTest_5 rfl rfl ?_
    refine wa_getR (q := (RX12, TX12, 50)) (ci := 12) (k := 18) dX12_readTest_6 rfl (by decide) wf_X12_34 hr.1.1 rfl (md_r18 hr.1) ?_
    refine wa_iload_n dX12_readTest_9 rfl ?_
    refine wa_ialdN dX12_readTest_10 (md_s18 hr.1) (Or.inl rfl) (by omega) (by decide) ?_
    rw [hc]
    refine wa_iconst (v := 4) dX12_readTest_11 (by decide) ?_
    refine wa_icmp_ne (tgt := 21) dX12_readTest_12 (by decide) (fun hT12 => ?_) (fun hF12 => ?_)
    · have c4 : c < 4 := Nat.lt_of_le_of_ne hc4 (fun e => hT12 (by rw [e]; rfl))
      refine wa_iconst (v := 4) dX12_readTest_21 (by decide) ?_
      refine wa_iload_n dX12_readTest_22 rfl ?_
      refine wa_imul dX12_readTest_23 ?_
      refine wa_aload_n dX12_readTest_24 rfl rfl ?_
      refine wa_getR (q := (RX12, TX12, 50)) (ci := 12) (k := 18) dX12_readTest_25 rfl (by decide) wf_X12_34 hr.1.1 rfl (md_r18 hr.1) ?_
      refine wa_iload_n dX12_readTest_28 rfl ?_
      refine wa_ialdN dX12_readTest_29 (md_s18 hr.1) (Or.inl rfl) (by omega) (by decide) ?_
      rw [hc]
      refine wa_iadd dX12_readTest_30 ?_
      rw [ix_4 l c]
      refine wa_istore_n dX12_readTest_31 (by decide) rfl rfl ?_
      refine wa_aload_n dX12_readTest_32 rfl rfl ?_
      refine wa_getR (q := (RX12, TX12, 50)) (ci := 12) (k := 20) dX12_readTest_33 rfl (by decide) wf_X12_40 hr.1.1 rfl (md_r20 hr.1) ?_
      refine wa_iload_n dX12_readTest_36 rfl ?_
      refine wa_iload_n dX12_readTest_37 rfl ?_
      refine wa_iastN dX12_readTest_38 (md_s20 hr.1) (by omega) (by decide) ?_
      refine wa_aload_n dX12_readTest_39 rfl rfl ?_
      refine wa_callV (q := (RX12, TX12, 50)) (As := []) dX12_readTest_40 lk_X12_204 rfl rfl hr.1.1 rfl rfl (Nat.le_of_ble_eq_true rfl) (Nat.le_of_eq (Nat.zero_add _)) (Nat.le_of_eq (Nat.zero_add _)) (kp_next hs (rat_I hr (by omega) (by omega)) (pn_0 hq0).2.1 (pn_0 hq0).1 hi (fun M1 hf1 hr1 => ?_))
      exact seg1 c4 hq0 (kp_lt hs hi (pn_0 hq0).1) M1 (pfx_tk (pfx_I (pfx_rf _ _ _) (Or.inr (Or.inr (Or.inr ⟨by omega, by omega, by omega, by omega⟩)))) hf1 (xt_y y l c)) hr1 ((tkf_i hf1 (by omega)).trans ((mI_na _ _ _ _ _ _ (by omega)).trans hc)) ((tkf_i hf1 (by omega)).trans (mI_eq _ _ _ _))
    · have hc9 : c = 4 := (nI_eq (by omega) (by decide)).mp hF12
      refine wa_aload_n dX12_readTest_15 rfl rfl ?_
      refine wa_iconst (v := 4) dX12_readTest_16 (by decide) ?_
      refine wa_callV (q := (RX12, TX12, 50)) (As := [.int 4]) dX12_readTest_17 lk_X12_192 rfl rfl hr.1.1 rfl rfl (Nat.le_of_ble_eq_true rfl) (Nat.le_of_eq (Nat.zero_add _)) (Nat.le_of_eq (Nat.zero_add _)) (k_X12_stop 4 hr.1 ?_)
      exact wx_throw dX12_readTest_20 wd_X12_readTest (by decide) (by rw [hr.2.2.2.1.1]; exact hF 4 i _ (by simp [ps_test, hq0, hc9]) (pfx_stp (pfx_rf _ _ _) (xt_1 y l c)) (spd_of _ _ _ _))
