/-! the reference reads a whole text -/
def rr_ts (M : mm_M) (y l : Nat) (ts : List ps_T) : Prop := ∀ k t, ts[k]? = some t → rt_ M y (4 * l + k) t
def rr_ms (M : mm_M) (y l : Nat) (ts : List ps_T) : Prop := ∀ k t, ts[k]? = some t → rm_ M y (4 * l + k) t
def rr_ln (M : mm_M) (y l : Nat) (q : ps_L) : Prop := mm_I M (y + 5) l = q.1 ∧ mm_I M (y + 6) l = nI q.2.1.length ∧ q.2.1.length ≤ 4 ∧ mm_I M (y + 7) l = nI q.2.2.length ∧ q.2.2.length ≤ 4 ∧ rr_ts M y l q.2.1 ∧ rr_ms M y l q.2.2
def rr_dn (M : mm_M) (y T : Nat) (dn : List ps_L) : Prop := ∀ k q, dn[k]? = some q → rr_ln M y (12 * T + k) q
def rr_all (M : mm_M) (y T : Nat) (dn : List ps_L) : Prop := mm_I M (y + 4) T = nI dn.length ∧ dn.length ≤ 12 ∧ rr_dn M y T dn
theorem rr_len {α : Type} {l : List α} {k : Nat} {t : α} (h : l[k]? = some t) : k < l.length := (List.getElem?_eq_some_iff.mp h).1
theorem rr_snoc {α : Type} {ts : List α} {t u : α} {k : Nat} (h : (ts ++ [t])[k]? = some u) : ts[k]? = some u ∨ (k = ts.length ∧ u = t) := by
  rw [List.getElem?_append] at h
  split at h
  · exact Or.inl h
  · rename_i hk
    have h2 := rr_len h
    simp only [List.length_cons, List.length_nil] at h2
    have h3 : k = ts.length := by omega
    subst h3
    rw [Nat.sub_self] at h
    exact Or.inr ⟨rfl, (Option.some.inj h).symm⟩
theorem rr_ts_eq {M M' : mm_M} {y l : Nat} {ts : List ps_T} (h : rr_ts M y l ts) (he : ∀ a k, y + 8 ≤ a → a ≤ y + 10 → k < ts.length → mm_I M' a (4 * l + k) = mm_I M a (4 * l + k)) : rr_ts M' y l ts := by
  intro k t hk
  have hl := rr_len hk
  obtain ⟨h1, h2, h3⟩ := h k t hk
  exact ⟨(he _ _ (by omega) (by omega) hl).trans h1, (he _ _ (by omega) (by omega) hl).trans h2, (he _ _ (by omega) (by omega) hl).trans h3⟩
theorem rr_ms_eq {M M' : mm_M} {y l : Nat} {ts : List ps_T} (h : rr_ms M y l ts) (he : ∀ a k, y + 11 ≤ a → a ≤ y + 13 → k < ts.length → mm_I M' a (4 * l + k) = mm_I M a (4 * l + k)) : rr_ms M' y l ts := by
  intro k t hk
  have hl := rr_len hk
  obtain ⟨h1, h2, h3⟩ := h k t hk
  exact ⟨(he _ _ (by omega) (by omega) hl).trans h1, (he _ _ (by omega) (by omega) hl).trans h2, (he _ _ (by omega) (by omega) hl).trans h3⟩
theorem rr_ln_eq {M M' : mm_M} {y l : Nat} {q : ps_L} (h : rr_ln M y l q) (h1 : ∀ a, y + 5 ≤ a → a ≤ y + 7 → mm_I M' a l = mm_I M a l) (h2 : ∀ a k, y + 8 ≤ a → a ≤ y + 13 → k < 4 → mm_I M' a (4 * l + k) = mm_I M a (4 * l + k)) : rr_ln M' y l q := by
  obtain ⟨g1, g2, g3, g4, g5, g6, g7⟩ := h
  exact ⟨(h1 _ (by omega) (by omega)).trans g1, (h1 _ (by omega) (by omega)).trans g2, g3, (h1 _ (by omega) (by omega)).trans g4, g5, rr_ts_eq g6 (fun a k q1 q2 q3 => h2 a k q1 (by omega) (by omega)), rr_ms_eq g7 (fun a k q1 q2 q3 => h2 a k (by omega) q2 (by omega))⟩
theorem rr_dn_eq {M M' : mm_M} {y T : Nat} {dn : List ps_L} (h : rr_dn M y T dn) (he : ∀ a j, (y + 5 ≤ a ∧ a ≤ y + 7 ∧ 12 * T ≤ j ∧ j < 12 * T + dn.length) ∨ (y + 8 ≤ a ∧ a ≤ y + 13 ∧ 48 * T ≤ j ∧ j < 48 * T + 4 * dn.length) → mm_I M' a j = mm_I M a j) : rr_dn M' y T dn := by
  intro k q hk
  have hl := rr_len hk
  exact rr_ln_eq (h k q hk) (fun a q1 q2 => he a _ (Or.inl ⟨q1, q2, by omega, by omega⟩)) (fun a k q1 q2 q3 => he a _ (Or.inr ⟨q1, q2, by omega, by omega⟩))
theorem rr_dn_snoc {M : mm_M} {y T : Nat} {dn : List ps_L} {q : ps_L} (h : rr_dn M y T dn) (hq : rr_ln M y (12 * T + dn.length) q) : rr_dn M y T (dn ++ [q]) := by
  intro k u hk
  rcases rr_snoc hk with h1 | ⟨rfl, rfl⟩
  · exact h k u h1
  · exact hq
/-- what the reading of a line, of all, may change -/
def xl_ (y l a j : Nat) : Prop := (a = y ∧ 8 ≤ j ∧ j ≤ 12) ∨ a = y + 1 ∨ (y + 5 ≤ a ∧ a ≤ y + 7 ∧ j = l) ∨ (y + 8 ≤ a ∧ a ≤ y + 13 ∧ 4 * l ≤ j ∧ j < 4 * l + 4)
def xr_ (y T a j : Nat) : Prop := (a = y ∧ 8 ≤ j ∧ j ≤ 12) ∨ a = y + 1 ∨ (a = y + 4 ∧ j = T) ∨ (y + 5 ≤ a ∧ a ≤ y + 7 ∧ 12 * T ≤ j ∧ j < 12 * T + 12) ∨ (y + 8 ≤ a ∧ a ≤ y + 13 ∧ 48 * T ≤ j ∧ j < 48 * T + 48)
theorem xl_y (y l : Nat) : ∀ j, 8 ≤ j → j ≤ 12 → xl_ y l y j := fun j h1 h2 => Or.inl ⟨rfl, h1, h2⟩
theorem xr_y (y T : Nat) : ∀ j, 8 ≤ j → j ≤ 12 → xr_ y T y j := fun j h1 h2 => Or.inl ⟨rfl, h1, h2⟩
theorem xl_1 (y l : Nat) : ∀ j, xl_ y l (y + 1) j := fun j => Or.inr (Or.inl rfl)
theorem xr_1 (y T : Nat) : ∀ j, xr_ y T (y + 1) j := fun j => Or.inr (Or.inl rfl)
theorem xt_l {y l c : Nat} : ∀ a j, xt_ y l c a j → xl_ y l a j := fun a j h => by unfold xt_ at h; unfold xl_; omega
theorem xm_l {y l c : Nat} : ∀ a j, xm_ y l c a j → xl_ y l a j := fun a j h => by unfold xm_ at h; unfold xl_; omega
theorem xt_0 {y l c : Nat} : ∀ a j, xt_ y l c a j → xt_ y l 0 a j := fun a j h => by unfold xt_ at h ⊢; omega
theorem xm_0 {y l c : Nat} : ∀ a j, xm_ y l c a j → xm_ y l 0 a j := fun a j h => by unfold xm_ at h ⊢; omega
theorem xl_r {y T a : Nat} (ha : a < 12) : ∀ b j, xl_ y (12 * T + a) b j → xr_ y T b j := fun b j h => by unfold xl_ at h; unfold xr_; omega

theorem rds_T {G : mm_G} {d : Nat} {Q : Option Value → mm_M → Prop} {y : Nat} {b : Nat → Int32} {n m : Nat} {K L V : Nat → Int32} {P : Nat → Nat} (f : Nat) (hcs : G.2.2.2.1 3 = .int 1) (hsf : G.2.2.2.1 6 = va_rn f) (hs : stm_ b n m K L V P) {T l : Nat} (hl : l < 372) : ∀ (r c i : Nat) (M1 : mm_M) (ts : List ps_T), r + c = 5 → c ≤ 4 → i ≤ m → rat_ b n K L V P M1 y (i) → mm_I M1 (y + 6) l = nI c → ts.length = c → rr_ts M1 y l ts →
    (∀ (q : Int32) (j : Nat) (M' : mm_M), ps_run (ps_test K V) K 6 r c i = .inl (q, j) → pfx_ (xt_ y l 0) M1 M' y → spd_ M' y q (L j) → Q (some (.retAddr (y + 1))) M') →
    (∀ (us : List ps_T) (j : Nat) (M' : mm_M), ps_run (ps_test K V) K 6 r c i = .inr (us, j) → j ≤ m → pfx_ (xt_ y l 0) M1 M' y → rat_ b n K L V P M' y (j) → mm_I M' (y + 6) l = nI (ts ++ us).length → (ts ++ us).length ≤ 4 → rr_ts M' y l (ts ++ us) → wa_ 2 G jX12_reads (d + 8) 0 0 Q 0 0 M' 160 [some (.ref y), some (.int (nI T)), some (.int 1), some (.int (nI l)), none, none] []) →
    wa_ 2 G jX12_reads (d + 8) 0 0 Q 0 0 M1 144 [some (.ref y), some (.int (nI T)), some (.int 1), some (.int (nI l)), some (.int 1), none] [] := by
  intro r
  induction r with
  | zero => intro c i M1 ts h1 h2; exact absurd h1 (by omega)
  | succ r ih =>
    intro c i M1 ts hrc hc4 hi hr hc htl hts hF hO
    refine wa_aload_n dX12_reads_144 rfl rfl ?_
    refine wa_iload_n dX12_reads_145 rfl ?_
    refine wx_callV (q := (RX12, TX12, 50)) (As := [.int (nI l)]) dX12_reads_146 lk_X12_207 rfl rfl hr.1.1 rfl rfl (Nat.le_of_ble_eq_true rfl) (Nat.le_of_eq (Nat.zero_add _)) (Nat.le_of_eq (Nat.zero_add _)) wd_X12_reads (by decide) (k_X12_readTest f hcs hsf hs hi hr hl hc4 hc (fun q j M2 he hp hd => ?_) (fun t j M2 he c4 hj hp hr2 hc2 ht => ?_))
    · exact hF q j M2 (by simp [ps_run, he]) (pfx_mono hp xt_0) hd
    · have hY2 := hr2.1
      have hts2 : rr_ts M2 y l (ts ++ [t]) := by
        intro k u hk
        rcases rr_snoc hk with h | ⟨rfl, rfl⟩
        · exact rr_ts_eq hts (fun a k q1 q2 q3 => hp.2.2.1 a _ (by unfold xt_; omega)) k u h
        · rw [htl]; exact ht
      have hl2 : (ts ++ [t]).length = c + 1 := by rw [List.length_append, htl]; rfl
      refine wa_aload_n dX12_reads_149 rfl rfl ?_
      refine wa_ldcS (k := 2) (tx := "and") dX12_reads_150 (by decide) ?_
      refine wa_callV (q := (RX12, TX12, 50)) (As := [.ref (G.2.2.2.2.1 2)]) dX12_reads_152 lk_X12_182 rfl rfl hY2.1 rfl rfl (Nat.le_of_ble_eq_true rfl) (Nat.le_of_eq (Nat.zero_add _)) (Nat.le_of_eq (Nat.zero_add _)) (kt_isW 2 f hcs hsf (by decide) hr2.1 hr2.2.2.2.1 (fun hk1 => ?_) (fun hk1 => ?_))
      · refine wa_istore dX12_reads_155 (by decide) rfl rfl ?_
        refine wa_goto (tgt := 135) dX12_reads_157 (by decide) ?_
        refine wa_iload dX12_reads_135 rfl ?_
        refine wa_if_eq (tgt := 160) dX12_reads_137 (by decide) (fun h9 => absurd h9 (by decide)) (fun _ => ?_)
        refine wa_aload_n dX12_reads_140 rfl rfl ?_
        refine wa_callV (q := (RX12, TX12, 50)) (As := []) dX12_reads_141 lk_X12_204 rfl rfl hY2.1 rfl rfl (Nat.le_of_ble_eq_true rfl) (Nat.le_of_eq (Nat.zero_add _)) (Nat.le_of_eq (Nat.zero_add _)) (kp_next hs hr2 (by rw [hk1]; decide) (by rw [hk1]; decide) hj (fun M3 hf3 hr3 => ?_))
        refine ih (c + 1) (j + 1) M3 (ts ++ [t]) (by omega) (by omega) (kp_lt hs hj (by rw [hk1]; decide)) hr3 ((tkf_i hf3 (by omega)).trans hc2) hl2 (rr_ts_eq hts2 (fun a k q1 q2 q3 => tkf_i hf3 (by omega))) (fun q j' M' e1 p1 d1 => ?_) (fun us j' M' e1 j1 p1 r1 c1 l1 t1 => ?_)
        · refine hF q j' M' ?_ (pfx_tr (pfx_tk (pfx_mono hp xt_0) hf3 (xt_y y l 0)) p1) d1
          simp only [ps_run, he]
          rw [if_pos (hk1.trans (by decide)), e1]
        · rw [List.append_assoc] at c1 l1 t1
          refine hO (t :: us) j' M' ?_ j1 (pfx_tr (pfx_tk (pfx_mono hp xt_0) hf3 (xt_y y l 0)) p1) r1 c1 l1 t1
          simp only [ps_run, he]
          rw [if_pos (hk1.trans (by decide)), e1]
      · refine wa_istore dX12_reads_155 (by decide) rfl rfl ?_
        refine wa_goto (tgt := 135) dX12_reads_157 (by decide) ?_
        refine wa_iload dX12_reads_135 rfl ?_
        refine wa_if_eq (tgt := 160) dX12_reads_137 (by decide) (fun _ => ?_) (fun h9 => absurd h9 (by decide))
        refine wa_set0 4 (hO [t] j M2 ?_ hj (pfx_mono hp xt_0) hr2 (by rw [hl2]; exact hc2) (by rw [hl2]; omega) hts2)
        simp only [ps_run, he]
        rw [if_neg (fun e => hk1 (e.trans (by decide)))]

theorem rds_M {G : mm_G} {d : Nat} {Q : Option Value → mm_M → Prop} {y : Nat} {b : Nat → Int32} {n m : Nat} {K L V : Nat → Int32} {P : Nat → Nat} (f : Nat) (hcs : G.2.2.2.1 3 = .int 1) (hsf : G.2.2.2.1 6 = va_rn f) (hs : stm_ b n m K L V P) {T l : Nat} (hl : l < 372) : ∀ (r c i : Nat) (M1 : mm_M) (ts : List ps_T), r + c = 5 → c ≤ 4 → i ≤ m → rat_ b n K L V P M1 y (i) → mm_I M1 (y + 7) l = nI c → ts.length = c → rr_ms M1 y l ts →
    (∀ (q : Int32) (j : Nat) (M' : mm_M), ps_run (ps_term K V) K 43 r c i = .inl (q, j) → pfx_ (xm_ y l 0) M1 M' y → spd_ M' y q (L j) → Q (some (.retAddr (y + 1))) M') →
    (∀ (us : List ps_T) (j : Nat) (M' : mm_M), ps_run (ps_term K V) K 43 r c i = .inr (us, j) → j ≤ m → pfx_ (xm_ y l 0) M1 M' y → rat_ b n K L V P M' y (j) → mm_I M' (y + 7) l = nI (ts ++ us).length → (ts ++ us).length ≤ 4 → rr_ms M' y l (ts ++ us) → wa_ 2 G jX12_reads (d + 8) 0 0 Q 0 0 M' 203 [some (.ref y), some (.int (nI T)), some (.int 1), some (.int (nI l)), none, none] []) →
    wa_ 2 G jX12_reads (d + 8) 0 0 Q 0 0 M1 187 [some (.ref y), some (.int (nI T)), some (.int 1), some (.int (nI l)), none, some (.int 1)] [] := by
  intro r
  induction r with
  | zero => intro c i M1 ts h1 h2; exact absurd h1 (by omega)
  | succ r ih =>
    intro c i M1 ts hrc hc4 hi hr hc htl hts hF hO
    refine wa_aload_n dX12_reads_187 rfl rfl ?_
    refine wa_iload_n dX12_reads_188 rfl ?_
    refine wx_callV (q := (RX12, TX12, 50)) (As := [.int (nI l)]) dX12_reads_189 lk_X12_211 rfl rfl hr.1.1 rfl rfl (Nat.le_of_ble_eq_true rfl) (Nat.le_of_eq (Nat.zero_add _)) (Nat.le_of_eq (Nat.zero_add _)) wd_X12_reads (by decide) (k_X12_readTerm f hcs hsf hs hi hr hl hc4 hc (fun q j M2 he hp hd => ?_) (fun t j M2 he c4 hj hp hr2 hc2 ht => ?_))
    · exact hF q j M2 (by simp [ps_run, he]) (pfx_mono hp xm_0) hd
    · have hY2 := hr2.1
      have hts2 : rr_ms M2 y l (ts ++ [t]) := by
        intro k u hk
        rcases rr_snoc hk with h | ⟨rfl, rfl⟩
        · exact rr_ms_eq hts (fun a k q1 q2 q3 => hp.2.2.1 a _ (by unfold xm_; omega)) k u h
        · rw [htl]; exact ht
      have hl2 : (ts ++ [t]).length = c + 1 := by rw [List.length_append, htl]; rfl
      refine wa_aload_n dX12_reads_192 rfl rfl ?_
      refine wa_bipush (v := 43) dX12_reads_193 (by decide) ?_
      refine wa_callV (q := (RX12, TX12, 50)) (As := [.int 43]) dX12_reads_195 lk_X12_214 rfl rfl hY2.1 rfl rfl (Nat.le_of_ble_eq_true rfl) (Nat.le_of_eq (Nat.zero_add _)) (Nat.le_of_eq (Nat.zero_add _)) (kt_is 43 hr2.1 (by unfold sg_; decide) hr2.2.2.2.1 (fun hk1 => ?_) (fun hk1 => ?_))
      · refine wa_istore dX12_reads_198 (by decide) rfl rfl ?_
        refine wa_goto (tgt := 178) dX12_reads_200 (by decide) ?_
        refine wa_iload dX12_reads_178 rfl ?_
        refine wa_if_eq (tgt := 203) dX12_reads_180 (by decide) (fun h9 => absurd h9 (by decide)) (fun _ => ?_)
        refine wa_aload_n dX12_reads_183 rfl rfl ?_
        refine wa_callV (q := (RX12, TX12, 50)) (As := []) dX12_reads_184 lk_X12_204 rfl rfl hY2.1 rfl rfl (Nat.le_of_ble_eq_true rfl) (Nat.le_of_eq (Nat.zero_add _)) (Nat.le_of_eq (Nat.zero_add _)) (kp_next hs hr2 (by rw [hk1]; decide) (by rw [hk1]; decide) hj (fun M3 hf3 hr3 => ?_))
        refine ih (c + 1) (j + 1) M3 (ts ++ [t]) (by omega) (by omega) (kp_lt hs hj (by rw [hk1]; decide)) hr3 ((tkf_i hf3 (by omega)).trans hc2) hl2 (rr_ms_eq hts2 (fun a k q1 q2 q3 => tkf_i hf3 (by omega))) (fun q j' M' e1 p1 d1 => ?_) (fun us j' M' e1 j1 p1 r1 c1 l1 t1 => ?_)
        · refine hF q j' M' ?_ (pfx_tr (pfx_tk (pfx_mono hp xm_0) hf3 (xm_y y l 0)) p1) d1
          simp only [ps_run, he]
          rw [if_pos (hk1.trans (by decide)), e1]
        · rw [List.append_assoc] at c1 l1 t1
          refine hO (t :: us) j' M' ?_ j1 (pfx_tr (pfx_tk (pfx_mono hp xm_0) hf3 (xm_y y l 0)) p1) r1 c1 l1 t1
          simp only [ps_run, he]
          rw [if_pos (hk1.trans (by decide)), e1]
      · refine wa_istore dX12_reads_198 (by decide) rfl rfl ?_
        refine wa_goto (tgt := 178) dX12_reads_200 (by decide) ?_
        refine wa_iload dX12_reads_178 rfl ?_
        refine wa_if_eq (tgt := 203) dX12_reads_180 (by decide) (fun _ => ?_) (fun h9 => absurd h9 (by decide))
        refine wa_set0 5 (hO [t] j M2 ?_ hj (pfx_mono hp xm_0) hr2 (by rw [hl2]; exact hc2) (by rw [hl2]; omega) hts2)
        simp only [ps_run, he]
        rw [if_neg (fun e => hk1 (e.trans (by decide)))]

theorem rds_L {G : mm_G} {d : Nat} {Q : Option Value → mm_M → Prop} {y : Nat} {b : Nat → Int32} {n m : Nat} {K L V : Nat → Int32} {P : Nat → Nat} (f : Nat) (hcs : G.2.2.2.1 3 = .int 1) (hsf : G.2.2.2.1 6 = va_rn f) (hs : stm_ b n m K L V P) {T a i : Nat} {M1 : mm_M} (hT : T ≤ 30) (ha : a ≤ 12) (hi : i ≤ m) (hr : rat_ b n K L V P M1 y (i)) (hln : mm_I M1 (y + 4) T = nI a)
    (hF : ∀ (q : Int32) (j : Nat) (M' : mm_M), ps_line K V a i = .inl (q, j) → pfx_ (xr_ y T) M1 M' y → spd_ M' y q (L j) → Q (some (.retAddr (y + 1))) M')
    (hO : ∀ (ln : ps_L) (j : Nat) (M' : mm_M), ps_line K V a i = .inr (ln, j) → a < 12 → j ≤ m → pfx_ (xl_ y (12 * T + a)) M1 M' y → rat_ b n K L V P M' y (j) → rr_ln M' y (12 * T + a) ln → mm_I M' (y + 4) T = nI a → wa_ 2 G jX12_reads (d + 8) 0 0 Q 0 0 M' 203 [some (.ref y), some (.int (nI T)), some (.int 1), some (.int (nI (12 * T + a))), none, none] []) :
    wa_ 2 G jX12_reads (d + 8) 0 0 Q 0 0 M1 22 [some (.ref y), some (.int (nI T)), some (.int 1), none, none, none] [] := by
  have s160 : ∀ (ts : List ps_T) (j : Nat) (M3 : mm_M), a < 12 → K i = 4 → K (i + 1) = 2 → ¬ 9 < V (i + 1) → (if K (i + 2) = 5 then ps_run (ps_test K V) K 6 5 0 (i + 3) else .inr ([], i + 2)) = (.inr (ts, j) : (Int32 × Nat) ⊕ (List ps_T × Nat)) → j ≤ m → pfx_ (xl_ y (12 * T + a)) M1 M3 y → rat_ b n K L V P M3 y (j) → mm_I M3 (y + 4) T = nI a → mm_I M3 (y + 5) (12 * T + a) = V (i + 1) → mm_I M3 (y + 6) (12 * T + a) = nI ts.length → ts.length ≤ 4 → rr_ts M3 y (12 * T + a) ts → mm_I M3 (y + 7) (12 * T + a) = nI 0 → wa_ 2 G jX12_reads (d + 8) 0 0 Q 0 0 M3 160 [some (.ref y), some (.int (nI T)), some (.int 1), some (.int (nI (12 * T + a))), none, none] [] := by
    intro ts j M3 ha2 k0 k1 v1 ht hj hp hr3 h4 h5 h6 h6l h8 h7
    have hY3 := hr3.1
    refine wa_aload_n dX12_reads_160 rfl rfl ?_
    refine wa_ldcS (k := 3) (tx := "is") dX12_reads_161 (by decide) ?_
    refine wa_callV (q := (RX12, TX12, 50)) (As := [.ref (G.2.2.2.2.1 3)]) dX12_reads_163 lk_X12_182 rfl rfl hY3.1 rfl rfl (Nat.le_of_ble_eq_true rfl) (Nat.le_of_eq (Nat.zero_add _)) (Nat.le_of_eq (Nat.zero_add _)) (kt_isW 3 f hcs hsf (by decide) hr3.1 hr3.2.2.2.1 (fun hk1 => ?_) (fun hk1 => ?_))
    · refine wa_if_ne (tgt := 175) dX12_reads_166 (by decide) (fun _ => ?_) (fun h9 => absurd h9 (by decide))
      refine wa_iconst (v := 1) dX12_reads_175 (by decide) ?_
      refine wa_istore dX12_reads_176 (by decide) rfl rfl ?_
      refine wa_iload dX12_reads_178 rfl ?_
      refine wa_if_eq (tgt := 203) dX12_reads_180 (by decide) (fun h9 => absurd h9 (by decide)) (fun _ => ?_)
      refine wa_aload_n dX12_reads_183 rfl rfl ?_
      refine wa_callV (q := (RX12, TX12, 50)) (As := []) dX12_reads_184 lk_X12_204 rfl rfl hY3.1 rfl rfl (Nat.le_of_ble_eq_true rfl) (Nat.le_of_eq (Nat.zero_add _)) (Nat.le_of_eq (Nat.zero_add _)) (kp_next hs hr3 (by rw [hk1]; decide) (by rw [hk1]; decide) hj (fun M4 hf4 hr4 => ?_))
      have hk7 : K j = 7 := hk1.trans (by decide)
      refine rds_M f hcs hsf hs (by omega) 5 0 (j + 1) M4 [] (by omega) (by omega) (kp_lt hs hj (by rw [hk7]; decide)) hr4 ((tkf_i hf4 (by omega)).trans h7) rfl (fun k t e => by cases e) (fun q j' M' e1 p1 d1 => ?_) (fun us j' M' e1 j1 p1 r1 c1 l1 t1 => ?_)
      · exact hF q j' M' (by simp only [ps_line, k0, k1, v1, ht, hk7, e1, Nat.ne_of_lt ha2, if_false, if_true, not_true_eq_false]) (pfx_tr (pfx_tk (pfx_mono hp (xl_r ha2)) hf4 (xr_y y T)) (pfx_mono (pfx_mono p1 xm_l) (xl_r ha2))) d1
      · refine hO (V (i + 1), ts, us) j' M' (by simp only [ps_line, k0, k1, v1, ht, hk7, e1, Nat.ne_of_lt ha2, if_false, if_true, not_true_eq_false]) ha2 j1 (pfx_tr (pfx_tk hp hf4 (xl_y y _)) (pfx_mono p1 xm_l)) r1 ⟨?_, ?_, h6l, c1, l1, ?_, t1⟩ ?_
        · exact (p1.2.2.1 _ _ (by unfold xm_; omega)).trans ((tkf_i hf4 (by omega)).trans h5)
        · exact (p1.2.2.1 _ _ (by unfold xm_; omega)).trans ((tkf_i hf4 (by omega)).trans h6)
        · exact rr_ts_eq h8 (fun a k q1 q2 q3 => (p1.2.2.1 _ _ (by unfold xm_; omega)).trans (tkf_i hf4 (by omega)))
        · exact (p1.2.2.1 _ _ (by unfold xm_; omega)).trans ((tkf_i hf4 (by omega)).trans h4)
    · refine wa_if_ne (tgt := 175) dX12_reads_166 (by decide) (fun h9 => absurd h9 (by decide)) (fun _ => ?_)
      refine wa_aload_n dX12_reads_169 rfl rfl ?_
      refine wa_iconst (v := 1) dX12_reads_170 (by decide) ?_
      refine wa_callV (q := (RX12, TX12, 50)) (As := [.int 1]) dX12_reads_171 lk_X12_192 rfl rfl hY3.1 rfl rfl (Nat.le_of_ble_eq_true rfl) (Nat.le_of_eq (Nat.zero_add _)) (Nat.le_of_eq (Nat.zero_add _)) (k_X12_stop 1 hr3.1 ?_)
      exact wx_throw dX12_reads_174 wd_X12_reads (by decide) (by rw [hr3.2.2.2.1.1]; exact hF 1 j _ (by simp only [ps_line, k0, k1, v1, ht, Nat.ne_of_lt ha2, if_false, if_true, not_true_eq_false]; rw [if_pos (fun e => hk1 (e.trans (by decide)))]) (pfx_stp (pfx_mono hp (xl_r ha2)) (xr_1 y T)) (spd_of _ _ _ _))
  have s127 : ∀ (M3 : mm_M), a < 12 → K i = 4 → K (i + 1) = 2 → ¬ 9 < V (i + 1) → i + 2 ≤ m → pfx_ (xl_ y (12 * T + a)) M1 M3 y → rat_ b n K L V P M3 y (i + 2) → mm_I M3 (y + 4) T = nI a → mm_I M3 (y + 5) (12 * T + a) = V (i + 1) → mm_I M3 (y + 6) (12 * T + a) = nI 0 → mm_I M3 (y + 7) (12 * T + a) = nI 0 → wa_ 2 G jX12_reads (d + 8) 0 0 Q 0 0 M3 127 [some (.ref y), some (.int (nI T)), some (.int 1), some (.int (nI (12 * T + a))), none, none] [] := by
    intro M3 ha2 k0 k1 v1 i2 hp hr3 h4 h5 h6 h7
    have hY3 := hr3.1
    refine wa_aload_n dX12_reads_127 rfl rfl ?_
    refine wa_ldcS (k := 1) (tx := "when") dX12_reads_128 (by decide) ?_
    refine wa_callV (q := (RX12, TX12, 50)) (As := [.ref (G.2.2.2.2.1 1)]) dX12_reads_130 lk_X12_182 rfl rfl hY3.1 rfl rfl (Nat.le_of_ble_eq_true rfl) (Nat.le_of_eq (Nat.zero_add _)) (Nat.le_of_eq (Nat.zero_add _)) (kt_isW 1 f hcs hsf (by decide) hr3.1 hr3.2.2.2.1 (fun hk1 => ?_) (fun hk1 => ?_))
    · refine wa_istore dX12_reads_133 (by decide) rfl rfl ?_
      refine wa_iload dX12_reads_135 rfl ?_
      refine wa_if_eq (tgt := 160) dX12_reads_137 (by decide) (fun h9 => absurd h9 (by decide)) (fun _ => ?_)
      refine wa_aload_n dX12_reads_140 rfl rfl ?_
      refine wa_callV (q := (RX12, TX12, 50)) (As := []) dX12_reads_141 lk_X12_204 rfl rfl hY3.1 rfl rfl (Nat.le_of_ble_eq_true rfl) (Nat.le_of_eq (Nat.zero_add _)) (Nat.le_of_eq (Nat.zero_add _)) (kp_next hs hr3 (by rw [hk1]; decide) (by rw [hk1]; decide) i2 (fun M4 hf4 hr4 => ?_))
      have hk5 : K (i + 2) = 5 := hk1.trans (by decide)
      refine rds_T f hcs hsf hs (by omega) 5 0 (i + 3) M4 [] (by omega) (by omega) (kp_lt hs i2 (by rw [hk5]; decide)) hr4 ((tkf_i hf4 (by omega)).trans h6) rfl (fun k t e => by cases e) (fun q j' M' e1 p1 d1 => ?_) (fun us j' M' e1 j1 p1 r1 c1 l1 t1 => ?_)
      · exact hF q j' M' (by simp only [ps_line, k0, k1, v1, hk5, e1, Nat.ne_of_lt ha2, if_false, if_true, not_true_eq_false]) (pfx_tr (pfx_tk (pfx_mono hp (xl_r ha2)) hf4 (xr_y y T)) (pfx_mono (pfx_mono p1 xt_l) (xl_r ha2))) d1
      · refine s160 us j' M' ha2 k0 k1 v1 (by rw [if_pos hk5]; exact e1) j1 (pfx_tr (pfx_tk hp hf4 (xl_y y _)) (pfx_mono p1 xt_l)) r1 ?_ ?_ c1 l1 t1 ?_
        · exact (p1.2.2.1 _ _ (by unfold xt_; omega)).trans ((tkf_i hf4 (by omega)).trans h4)
        · exact (p1.2.2.1 _ _ (by unfold xt_; omega)).trans ((tkf_i hf4 (by omega)).trans h5)
        · exact (p1.2.2.1 _ _ (by unfold xt_; omega)).trans ((tkf_i hf4 (by omega)).trans h7)
    · refine wa_istore dX12_reads_133 (by decide) rfl rfl ?_
      refine wa_iload dX12_reads_135 rfl ?_
      refine wa_if_eq (tgt := 160) dX12_reads_137 (by decide) (fun _ => ?_) (fun h9 => absurd h9 (by decide))
      exact wa_set0 4 (s160 [] (i + 2) M3 ha2 k0 k1 v1 (if_neg (fun e => hk1 (e.trans (by decide)))) i2 hp hr3 h4 h5 h6 (by decide) (fun k t e => by cases e) h7)
  have s84 : ∀ (M3 : mm_M), a < 12 → K i = 4 → i + 1 ≤ m → pfx_ (xl_ y (12 * T + a)) M1 M3 y → rat_ b n K L V P M3 y (i + 1) → mm_I M3 (y + 4) T = nI a → mm_I M3 (y + 6) (12 * T + a) = nI 0 → mm_I M3 (y + 7) (12 * T + a) = nI 0 → wa_ 2 G jX12_reads (d + 8) 0 0 Q 0 0 M3 84 [some (.ref y), some (.int (nI T)), some (.int 1), some (.int (nI (12 * T + a))), none, none] [] := by
    intro M3 ha2 k0 i1 hp hr3 h4 h6 h7
    have hY3 := hr3.1
    refine wa_aload_n dX12_reads_84 rfl rfl ?_
    refine wa_getI (q := (RX12, TX12, 50)) (ci := 12) (k := 9) dX12_reads_85 rfl (by decide) wf_X12_157 hY3.1 rfl ?_
    refine wa_iconst (v := 3) dX12_reads_88 (by decide) ?_
    refine wa_icmp_eq (tgt := 98) dX12_reads_89 (by decide) (fun hT89 => ?_) (fun hF89 => ?_)
    · have hk2 : K (i + 1) = 2 := tk_k2 hr3.2.2.2.1 hT89
      have hn2 := (tk_num hr3.2.2.2.1 hk2).2
      refine wa_aload_n dX12_reads_98 rfl rfl ?_
      refine wa_getI (q := (RX12, TX12, 50)) (ci := 12) (k := 12) dX12_reads_99 rfl (by decide) wf_X12_174 hY3.1 rfl ?_
      rw [hn2]
      refine wa_bipush (v := 9) dX12_reads_102 (by decide) ?_
      refine wa_icmp_le (tgt := 113) dX12_reads_104 (by decide) (fun hT104 => ?_) (fun hF104 => ?_)
      · refine wa_aload_n dX12_reads_113 rfl rfl ?_
        refine wa_getR (q := (RX12, TX12, 50)) (ci := 12) (k := 17) dX12_reads_114 rfl (by decide) wf_X12_31 hY3.1 rfl (md_r17 hY3) ?_
        refine wa_iload_n dX12_reads_117 rfl ?_
        refine wa_aload_n dX12_reads_118 rfl rfl ?_
        refine wa_getI (q := (RX12, TX12, 50)) (ci := 12) (k := 12) dX12_reads_119 rfl (by decide) wf_X12_174 hY3.1 rfl ?_
        rw [hn2]
        refine wa_iastN dX12_reads_122 (md_s17 hY3) (by omega) (by decide) ?_
        refine wa_aload_n dX12_reads_123 rfl rfl ?_
        refine wa_callV (q := (RX12, TX12, 50)) (As := []) dX12_reads_124 lk_X12_204 rfl rfl hY3.1 rfl rfl (Nat.le_of_ble_eq_true rfl) (Nat.le_of_eq (Nat.zero_add _)) (Nat.le_of_eq (Nat.zero_add _)) (kp_next hs (rat_I hr3 (by omega) (by omega)) (by rw [hk2]; decide) (by rw [hk2]; decide) i1 (fun M4 hf4 hr4 => ?_))
        exact s127 M4 ha2 k0 hk2 (Int32.not_lt.mpr hT104) (kp_lt hs i1 (by rw [hk2]; decide)) (pfx_tk (pfx_I hp (Or.inr (Or.inr (Or.inl ⟨by omega, by omega, rfl⟩)))) hf4 (xl_y y _)) hr4 ((tkf_i hf4 (by omega)).trans ((mI_na _ _ _ _ _ _ (by omega)).trans h4)) ((tkf_i hf4 (by omega)).trans (mI_eq _ _ _ _)) ((tkf_i hf4 (by omega)).trans ((mI_na _ _ _ _ _ _ (by omega)).trans h6)) ((tkf_i hf4 (by omega)).trans ((mI_na _ _ _ _ _ _ (by omega)).trans h7))
      · refine wa_aload_n dX12_reads_107 rfl rfl ?_
        refine wa_iconst (v := 3) dX12_reads_108 (by decide) ?_
        refine wa_callV (q := (RX12, TX12, 50)) (As := [.int 3]) dX12_reads_109 lk_X12_192 rfl rfl hY3.1 rfl rfl (Nat.le_of_ble_eq_true rfl) (Nat.le_of_eq (Nat.zero_add _)) (Nat.le_of_eq (Nat.zero_add _)) (k_X12_stop 3 hr3.1 ?_)
        exact wx_throw dX12_reads_112 wd_X12_reads (by decide) (by rw [hr3.2.2.2.1.1]; exact hF 3 (i + 1) _ (by simp only [ps_line, k0, hk2, Nat.ne_of_lt ha2, if_false, if_true, not_true_eq_false]; rw [if_pos (Int32.not_le.mp hF104)]) (pfx_stp (pfx_mono hp (xl_r ha2)) (xr_1 y T)) (spd_of _ _ _ _))
    · have hk2 : ¬ K (i + 1) = 2 := fun e => hF89 (tk_num hr3.2.2.2.1 e).1
      refine wa_aload_n dX12_reads_92 rfl rfl ?_
      refine wa_iconst (v := 1) dX12_reads_93 (by decide) ?_
      refine wa_callV (q := (RX12, TX12, 50)) (As := [.int 1]) dX12_reads_94 lk_X12_192 rfl rfl hY3.1 rfl rfl (Nat.le_of_ble_eq_true rfl) (Nat.le_of_eq (Nat.zero_add _)) (Nat.le_of_eq (Nat.zero_add _)) (k_X12_stop 1 hr3.1 ?_)
      exact wx_throw dX12_reads_97 wd_X12_reads (by decide) (by rw [hr3.2.2.2.1.1]; exact hF 1 (i + 1) _ (by simp [ps_line, k0, hk2, Nat.ne_of_lt ha2]) (pfx_stp (pfx_mono hp (xl_r ha2)) (xr_1 y T)) (spd_of _ _ _ _))
  refine wa_aload_n dX12_reads_22 rfl rfl ?_
  refine wa_ldcS (k := 0) (tx := "fee") dX12_reads_23 (by decide) ?_
  refine wa_callV (q := (RX12, TX12, 50)) (As := [.ref (G.2.2.2.2.1 0)]) dX12_reads_25 lk_X12_182 rfl rfl hr.1.1 rfl rfl (Nat.le_of_ble_eq_true rfl) (Nat.le_of_eq (Nat.zero_add _)) (Nat.le_of_eq (Nat.zero_add _)) (kt_isW 0 f hcs hsf (by decide) hr.1 hr.2.2.2.1 (fun hk1 => ?_) (fun hk1 => ?_))
  · refine wa_if_ne (tgt := 37) dX12_reads_28 (by decide) (fun _ => ?_) (fun h9 => absurd h9 (by decide))
    have hk4 : K i = 4 := hk1.trans (by decide)
    refine wa_aload_n dX12_reads_37 rfl rfl ?_
    refine wa_getR (q := (RX12, TX12, 50)) (ci := 12) (k := 16) dX12_reads_38 rfl (by decide) wf_X12_28 hr.1.1 rfl (md_r16 hr.1) ?_
    refine wa_iload_n dX12_reads_41 rfl ?_
    refine wa_ialdN dX12_reads_42 (md_s16 hr.1) (Or.inl rfl) (by omega) (by decide) ?_
    rw [hln]
    refine wa_bipush (v := 12) dX12_reads_43 (by decide) ?_
    refine wa_icmp_ne (tgt := 54) dX12_reads_45 (by decide) (fun hT45 => ?_) (fun hF45 => ?_)
    · have ha2 : a < 12 := Nat.lt_of_le_of_ne ha (fun e => hT45 (by rw [e]; rfl))
      refine wa_bipush (v := 12) dX12_reads_54 (by decide) ?_
      refine wa_iload_n dX12_reads_56 rfl ?_
      refine wa_imul dX12_reads_57 ?_
      refine wa_aload_n dX12_reads_58 rfl rfl ?_
      refine wa_getR (q := (RX12, TX12, 50)) (ci := 12) (k := 16) dX12_reads_59 rfl (by decide) wf_X12_28 hr.1.1 rfl (md_r16 hr.1) ?_
      refine wa_iload_n dX12_reads_62 rfl ?_
      refine wa_ialdN dX12_reads_63 (md_s16 hr.1) (Or.inl rfl) (by omega) (by decide) ?_
      rw [hln]
      refine wa_iadd dX12_reads_64 ?_
      rw [ix_12 T a]
      refine wa_istore_n dX12_reads_65 (by decide) rfl rfl ?_
      refine wa_aload_n dX12_reads_66 rfl rfl ?_
      refine wa_getR (q := (RX12, TX12, 50)) (ci := 12) (k := 18) dX12_reads_67 rfl (by decide) wf_X12_34 hr.1.1 rfl (md_r18 hr.1) ?_
      refine wa_iload_n dX12_reads_70 rfl ?_
      refine wa_iconst (v := 0) dX12_reads_71 (by decide) ?_
      refine wa_iastN dX12_reads_72 (md_s18 hr.1) (by omega) (by decide) ?_
      refine wa_aload_n dX12_reads_73 rfl rfl ?_
      refine wa_getR (q := (RX12, TX12, 50)) (ci := 12) (k := 19) dX12_reads_74 rfl (by decide) wf_X12_37 hr.1.1 rfl (md_r19 hr.1) ?_
      refine wa_iload_n dX12_reads_77 rfl ?_
      refine wa_iconst (v := 0) dX12_reads_78 (by decide) ?_
      refine wa_iastN dX12_reads_79 (md_s19 hr.1) (by omega) (by decide) ?_
      refine wa_aload_n dX12_reads_80 rfl rfl ?_
      refine wa_callV (q := (RX12, TX12, 50)) (As := []) dX12_reads_81 lk_X12_204 rfl rfl hr.1.1 rfl rfl (Nat.le_of_ble_eq_true rfl) (Nat.le_of_eq (Nat.zero_add _)) (Nat.le_of_eq (Nat.zero_add _)) (kp_next hs (rat_I (rat_I hr (by omega) (by omega)) (by omega) (by omega)) (by rw [hk4]; decide) (by rw [hk4]; decide) hi (fun M4 hf4 hr4 => ?_))
      exact s84 M4 ha2 hk4 (kp_lt hs hi (by rw [hk4]; decide)) (pfx_tk (pfx_I (pfx_I (pfx_rf _ _ _) (Or.inr (Or.inr (Or.inl ⟨by omega, by omega, rfl⟩)))) (Or.inr (Or.inr (Or.inl ⟨by omega, by omega, rfl⟩)))) hf4 (xl_y y _)) hr4 ((tkf_i hf4 (by omega)).trans ((mI_na _ _ _ _ _ _ (by omega)).trans ((mI_na _ _ _ _ _ _ (by omega)).trans hln))) ((tkf_i hf4 (by omega)).trans ((mI_na _ _ _ _ _ _ (by omega)).trans (mI_eq _ _ _ _))) ((tkf_i hf4 (by omega)).trans (mI_eq _ _ _ _))
    · have ha9 : a = 12 := (nI_eq (by omega) (by decide)).mp hF45
      refine wa_aload_n dX12_reads_48 rfl rfl ?_
      refine wa_iconst (v := 4) dX12_reads_49 (by decide) ?_
      refine wa_callV (q := (RX12, TX12, 50)) (As := [.int 4]) dX12_reads_50 lk_X12_192 rfl rfl hr.1.1 rfl rfl (Nat.le_of_ble_eq_true rfl) (Nat.le_of_eq (Nat.zero_add _)) (Nat.le_of_eq (Nat.zero_add _)) (k_X12_stop 4 hr.1 ?_)
      exact wx_throw dX12_reads_53 wd_X12_reads (by decide) (by rw [hr.2.2.2.1.1]; exact hF 4 i _ (by simp [ps_line, hk4, ha9]) (pfx_stp (pfx_rf _ _ _) (xr_1 y T)) (spd_of _ _ _ _))
  · refine wa_if_ne (tgt := 37) dX12_reads_28 (by decide) (fun h9 => absurd h9 (by decide)) (fun _ => ?_)
    refine wa_aload_n dX12_reads_31 rfl rfl ?_
    refine wa_iconst (v := 1) dX12_reads_32 (by decide) ?_
    refine wa_callV (q := (RX12, TX12, 50)) (As := [.int 1]) dX12_reads_33 lk_X12_192 rfl rfl hr.1.1 rfl rfl (Nat.le_of_ble_eq_true rfl) (Nat.le_of_eq (Nat.zero_add _)) (Nat.le_of_eq (Nat.zero_add _)) (k_X12_stop 1 hr.1 ?_)
    exact wx_throw dX12_reads_36 wd_X12_reads (by decide) (by rw [hr.2.2.2.1.1]; exact hF 1 i _ (by unfold ps_line; rw [if_pos (fun e => hk1 (e.trans (by decide)))]) (pfx_stp (pfx_rf _ _ _) (xr_1 y T)) (spd_of _ _ _ _))
