section FORGET
variable {fl : Nat} {G : mm_G} {J : mm_J} {d mc ms kc ks : Nat} {Q : Option Value → mm_M → Prop} {M : mm_M} {pc : Nat} {lv : List (Option Value)} {st : List Value}
theorem wa_set0 (i : Nat) (kk : wa_ fl G J d mc ms Q kc ks M pc (lv.set i none) st) : wa_ fl G J d mc ms Q kc ks M pc lv st := by
  refine wa_lv (fun j v h => ?_) kk
  by_cases hij : i = j
  · subst hij
    rw [List.getElem?_set] at h
    simp at h
  · rw [List.getElem?_set_ne hij] at h
    exact h
end FORGET
def mm_b (b : Bool) : Int32 := if b then 1 else 0
/-! pure: what was lost, asked for, sent again -/
def nx_ (l : Nat → Bool) : Nat → Nat → Nat
  | 0, g => g
  | n + 1, g => if l g then nx_ l n (g + 1) else g
theorem nx_spec (l : Nat → Bool) : ∀ n g, g ≤ nx_ l n g ∧ nx_ l n g ≤ g + n ∧ (nx_ l n g < g + n → l (nx_ l n g) = false) ∧ ∀ u, g ≤ u → u < nx_ l n g → l u = true := by
  intro n
  induction n with
  | zero => intro g; exact ⟨Nat.le_refl _, Nat.le_refl _, fun h => absurd h (Nat.lt_irrefl _), fun u h1 h2 => absurd h2 (by simp only [nx_]; omega)⟩
  | succ n ih =>
    intro g
    simp only [nx_]
    by_cases hl : l g = true
    · rw [if_pos hl]
      obtain ⟨h1, h2, h3, h4⟩ := ih (g + 1)
      refine ⟨by omega, by omega, fun h => h3 (by omega), fun u hu1 hu2 => ?_⟩
      by_cases he : u = g
      · rw [he]; exact hl
      · exact h4 u (by omega) hu2
    · rw [if_neg hl]
      refine ⟨Nat.le_refl _, by omega, fun _ => by simpa using hl, fun u h1 h2 => absurd h2 (by omega)⟩
/-- the next number behind t that isn't lost, T if there is none -/
def nxt_ (l : Nat → Bool) (T t : Nat) : Nat := nx_ l (T - (t + 1)) (t + 1)
theorem nxt_spec (l : Nat → Bool) {T t : Nat} (h : t < T) : t < nxt_ l T t ∧ nxt_ l T t ≤ T ∧ (nxt_ l T t < T → l (nxt_ l T t) = false) ∧ ∀ u, t < u → u < nxt_ l T t → l u = true := by
  obtain ⟨h1, h2, h3, h4⟩ := nx_spec l (T - (t + 1)) (t + 1)
  unfold nxt_
  exact ⟨by omega, by omega, fun q => h3 (by omega), fun u hu1 hu2 => h4 u (by omega) hu2⟩
/-- the day on which t was asked for by day td, a million if it wasn't -/
def ak_ (f : Nat → Nat) (l : Nat → Bool) (T td t : Nat) : Nat := if l t = true ∧ nxt_ l T t < T ∧ f (nxt_ l T t) ≤ td then f (nxt_ l T t) else 1000000
def ag_ (f : Nat → Nat) (l : Nat → Bool) (dy T td t : Nat) : Nat := if ak_ f l T td t = 1000000 then 1000000 else ak_ f l T td t + 2 * dy
def cm_ (f : Nat → Nat) (l : Nat → Bool) (dy T td t : Nat) : Nat := if l t = true then ag_ f l dy T td t else f t
def ac_ (ta op : Nat) : Nat := (ta + 29) / 30 - (op + 29) / 30
theorem ak_pos {f : Nat → Nat} {l : Nat → Bool} {T td t : Nat} (h1 : l t = true) (h2 : nxt_ l T t < T) (h3 : f (nxt_ l T t) ≤ td) : ak_ f l T td t = f (nxt_ l T t) := if_pos ⟨h1, h2, h3⟩
theorem ak_neg {f : Nat → Nat} {l : Nat → Bool} {T td t : Nat} (h : ¬ (l t = true ∧ nxt_ l T t < T ∧ f (nxt_ l T t) ≤ td)) : ak_ f l T td t = 1000000 := if_neg h
/-- who is asked for on the next day -/
theorem ak_up {f : Nat → Nat} {l : Nat → Bool} {dy T td t : Nat} (hm : ∀ a b, a ≤ b → b < T → f a ≤ f b) (hf : ∀ a, a < T → f a ≤ 20000) (htd : td ≤ 20000) (ht : t < T) :
    (td + 1 < cm_ f l dy T td t ∧ (∃ u, t < u ∧ u < T ∧ cm_ f l dy T td u ≤ td + 1) ∧ ak_ f l T td t = 1000000) ↔ (l t = true ∧ nxt_ l T t < T ∧ f (nxt_ l T t) = td + 1) := by
  obtain ⟨n1, n2, n3, n4⟩ := nxt_spec l ht
  constructor
  · rintro ⟨h1, ⟨u, hu1, hu2, hu3⟩, h3⟩
    -- a number behind t that isn't lost and has come
    have hv : ∃ v, t < v ∧ v < T ∧ l v = false ∧ f v ≤ td + 1 := by
      by_cases hlu : l u = true
      · obtain ⟨m1, m2, m3, m4⟩ := nxt_spec l hu2
        unfold cm_ at hu3
        rw [if_pos hlu] at hu3
        unfold ag_ at hu3
        by_cases hk : l u = true ∧ nxt_ l T u < T ∧ f (nxt_ l T u) ≤ td
        · exact ⟨nxt_ l T u, by omega, hk.2.1, m3 hk.2.1, by omega⟩
        · rw [ak_neg hk, if_pos rfl] at hu3
          omega
      · unfold cm_ at hu3
        rw [if_neg hlu] at hu3
        exact ⟨u, hu1, hu2, by simpa using hlu, hu3⟩
    obtain ⟨v, hv1, hv2, hv3, hv4⟩ := hv
    by_cases hl : l t = true
    · have hvn : nxt_ l T t ≤ v := by
        apply Nat.not_lt.mp
        intro hlt
        rw [n4 v hv1 hlt] at hv3
        cases hv3
      have hn : nxt_ l T t < T := by omega
      have hfn := hm _ _ hvn hv2
      refine ⟨hl, hn, ?_⟩
      by_cases hle : f (nxt_ l T t) ≤ td
      · rw [ak_pos hl hn hle] at h3
        have := hf _ hn
        omega
      · omega
    · unfold cm_ at h1
      rw [if_neg hl] at h1
      have := hm t v (by omega) hv2
      omega
  · rintro ⟨hl, hn, he⟩
    have hk : ak_ f l T td t = 1000000 := ak_neg (fun q => by omega)
    refine ⟨?_, ⟨nxt_ l T t, n1, hn, ?_⟩, hk⟩
    · unfold cm_ ag_
      rw [if_pos hl, hk, if_pos rfl]
      omega
    · unfold cm_
      rw [if_neg (by rw [n3 hn]; decide)]
      omega
theorem ak_next {f : Nat → Nat} {l : Nat → Bool} {T td t : Nat} (h : ¬ (l t = true ∧ nxt_ l T t < T ∧ f (nxt_ l T t) = td + 1)) : ak_ f l T (td + 1) t = ak_ f l T td t := by
  unfold ak_
  by_cases hk : l t = true ∧ nxt_ l T t < T ∧ f (nxt_ l T t) ≤ td
  · rw [if_pos hk, if_pos ⟨hk.1, hk.2.1, by omega⟩]
  · rw [if_neg hk, if_neg (fun q => by
      rcases Nat.lt_or_ge (f (nxt_ l T t)) (td + 1) with h2 | h2
      · exact hk ⟨q.1, q.2.1, by omega⟩
      · exact h ⟨q.1, q.2.1, by omega⟩)]
theorem ak_le {f : Nat → Nat} {l : Nat → Bool} {T td t : Nat} (htd : td ≤ 20000) : ak_ f l T td t ≤ td ∨ ak_ f l T td t = 1000000 := by
  unfold ak_
  by_cases hk : l t = true ∧ nxt_ l T t < T ∧ f (nxt_ l T t) ≤ td
  · rw [if_pos hk]; exact Or.inl hk.2.2
  · rw [if_neg hk]; exact Or.inr rfl
/-! the reference's arrays of a port, by what was told to them: accounts as of day ta, asked for as of day tk -/
def md_BP (M : mm_M) (y p T ta tk dy op : Nat) (f : Nat → Nat) (l : Nat → Bool) : Prop := mm_I M (y + 14) p = nI dy ∧ mm_I M (y + 15) p = nI op ∧ mm_I M (y + 18) p = nI (ac_ ta op) ∧ ∀ t, t < T → mm_I M (y + 20) (30 * p + t) = nI (f t) ∧ mm_I M (y + 23) (30 * p + t) = mm_b (l t) ∧ mm_I M (y + 22) (30 * p + t) = nI (ak_ f l T tk t) ∧ mm_I M (y + 21) (30 * p + t) = nI (ag_ f l dy T tk t)
theorem mm_b0 {b : Bool} : mm_b b = 0 ↔ b = false := by cases b <;> simp [mm_b]
theorem md_com_B {M : mm_M} {y p T ta tk dy op : Nat} {f : Nat → Nat} {l : Nat → Bool} (h : md_BP M y p T ta tk dy op f l) {t : Nat} (ht : t < T) : md_com M y (30 * p + t) = nI (cm_ f l dy T tk t) := by
  obtain ⟨h1, h2, h3, h4⟩ := h.2.2.2 t ht
  unfold md_com cm_
  rw [h2, h1, h4]
  cases l t <;> simp [mm_b]
/-- same but for ints -/
def md_sk (M M' : mm_M) : Prop := M'.1 = M.1 ∧ M'.2.2 = M.2.2
theorem md_sk_mdl {M M' : mm_M} {y : Nat} (h : md_sk M M') (hY : mdl_ M y) : mdl_ M' y := by
  obtain ⟨M1, MI, M2⟩ := M
  obtain ⟨N1, NI, N2⟩ := M'
  obtain ⟨h1, h2⟩ := h
  cases h1
  cases h2
  exact hY
theorem md_sk_rf (M : mm_M) : md_sk M M := ⟨rfl, rfl⟩
theorem md_sk_tr {A B C : mm_M} (h1 : md_sk A B) (h2 : md_sk B C) : md_sk A C := ⟨h2.1.trans h1.1, h2.2.trans h1.2⟩
theorem md_sk_sI {A B : mm_M} (h : md_sk A B) (a k : Nat) (v : Int32) : md_sk A (mm_sI B a k v) := h
/-- what asks(p, day) does, from number lo on -/
def md_up (M : mm_M) (y p T : Nat) (dd : Int32) (t : Nat) : Prop := dd < md_com M y (30 * p + t) ∧ (∃ u, t < u ∧ u < T ∧ md_com M y (30 * p + u) ≤ dd) ∧ mm_I M (y + 22) (30 * p + t) = 1000000
def md_ad (M M' : mm_M) (y p T : Nat) (dd : Int32) (lo : Nat) : Prop := md_sk M M' ∧ (∀ a j, a ≠ y + 21 → a ≠ y + 22 → mm_I M' a j = mm_I M a j) ∧ (∀ j, (∀ t, lo ≤ t → t < T → j ≠ 30 * p + t) → mm_I M' (y + 21) j = mm_I M (y + 21) j ∧ mm_I M' (y + 22) j = mm_I M (y + 22) j) ∧ ∀ t, lo ≤ t → t < T → (md_up M y p T dd t → mm_I M' (y + 22) (30 * p + t) = dd ∧ mm_I M' (y + 21) (30 * p + t) = dd + 2 * mm_I M (y + 14) p) ∧ (¬ md_up M y p T dd t → mm_I M' (y + 22) (30 * p + t) = mm_I M (y + 22) (30 * p + t) ∧ mm_I M' (y + 21) (30 * p + t) = mm_I M (y + 21) (30 * p + t))
theorem md_ad0 (M : mm_M) (y p T : Nat) (dd : Int32) : md_ad M M y p T dd T := ⟨md_sk_rf M, fun _ _ _ _ => rfl, fun _ _ => ⟨rfl, rfl⟩, fun t h1 h2 => absurd h1 (by omega)⟩
/-- number k stays as it is -/
theorem md_ad_k {M M' : mm_M} {y p T : Nat} {dd : Int32} {k : Nat} (h : md_ad M M' y p T dd (k + 1)) (hk : ¬ md_up M y p T dd k) : md_ad M M' y p T dd k := by
  refine ⟨h.1, h.2.1, fun j hj => h.2.2.1 j (fun t h1 h2 => hj t (by omega) h2), fun t h1 h2 => ?_⟩
  by_cases he : t = k
  · subst he
    have := h.2.2.1 (30 * p + t) (fun u h3 h4 => by omega)
    exact ⟨fun q => absurd q hk, fun _ => ⟨this.2, this.1⟩⟩
  · exact h.2.2.2 t (by omega) h2
/-- number k is asked for -/
theorem md_ad_u {M M' : mm_M} {y p T : Nat} {dd v : Int32} {k : Nat} (h : md_ad M M' y p T dd (k + 1)) (hk : md_up M y p T dd k) (hv : v = dd + 2 * mm_I M (y + 14) p) : md_ad M (mm_sI (mm_sI M' (y + 22) (30 * p + k) dd) (y + 21) (30 * p + k) v) y p T dd k := by
  have r1 : ∀ j, mm_I (mm_sI (mm_sI M' (y + 22) (30 * p + k) dd) (y + 21) (30 * p + k) v) (y + 21) j = if j = 30 * p + k then v else mm_I M' (y + 21) j := by
    intro j
    rw [mm_I_sI, mm_I_sI]
    by_cases hj : j = 30 * p + k <;> simp [hj]
  have r2 : ∀ j, mm_I (mm_sI (mm_sI M' (y + 22) (30 * p + k) dd) (y + 21) (30 * p + k) v) (y + 22) j = if j = 30 * p + k then dd else mm_I M' (y + 22) j := by
    intro j
    rw [mm_I_sI, mm_I_sI]
    by_cases hj : j = 30 * p + k <;> simp [hj]
  refine ⟨h.1, fun a j h1 h2 => ?_, fun j hj => ?_, fun t h1 h2 => ?_⟩
  · rw [mm_I_sI, mm_I_sI, if_neg (fun q => h1 q.1), if_neg (fun q => h2 q.1)]
    exact h.2.1 a j h1 h2
  · have h3 : j ≠ 30 * p + k := fun q => by
      by_cases hkT : k < T
      · exact hj k (Nat.le_refl _) hkT q
      · obtain ⟨-, ⟨u, hu1, hu2, -⟩, -⟩ := hk
        omega
    rw [r1, r2, if_neg h3, if_neg h3]
    exact h.2.2.1 j (fun t h4 h5 => hj t (by omega) h5)
  · rw [r1, r2]
    by_cases he : t = k
    · subst he
      rw [if_pos rfl, if_pos rfl]
      exact ⟨fun _ => ⟨rfl, hv⟩, fun q => absurd hk q⟩
    · rw [if_neg (by omega), if_neg (by omega)]
      exact h.2.2.2 t (by omega) h2
theorem ni_m1 (x : Int32) : x + Int32.ofInt (-1) = x - 1 := by
  have : Int32.ofInt (-1) = -1 := by decide
  rw [this, ← Int32.sub_eq_add_neg]

theorem k_X12_asks {G : mm_G} {d : Nat} {Q : Option Value → mm_M → Prop} {M : mm_M} {y : Nat} (p T : Nat) (dd : Int32) (hY : mdl_ M y) (hp : p < 8) (hT : mm_I M y 14 = nI T) (hT30 : T ≤ 30) (hQ : ∀ M', md_ad M M' y p T dd 0 → Q none M') : ma_ G jX12_asks (d + 2) 0 0 [.ref y, .int (nI p), .int dd] M Q := by
  refine ma_of [some (.ref y), some (.int (nI p)), some (.int dd), none, none, none] (by decide) rfl (Nat.le_of_ble_eq_true rfl) ?_
  have loop : ∀ (n : Nat) (M' : mm_M) (g : Int32), n ≤ T → md_ad M M' y p T dd n → (¬ g = 0 ↔ ∃ u, n ≤ u ∧ u < T ∧ md_com M y (30 * p + u) ≤ dd) → wa_ 0 G jX12_asks (d + 2) 0 0 Q 0 0 M' 10 [some (.ref y), some (.int (nI p)), some (.int dd), some (.int g), some (.int (nI n - 1)), none] [] := by
    intro n
    induction n with
    | zero =>
      intro M' g hn hA hg
      refine wa_iload dX12_asks_10 rfl ?_
      refine wa_if_lt (tgt := 87) dX12_asks_12 (by decide) (fun _ => ?_) (fun h9 => absurd h9 (by decide))
      exact wa_vret dX12_asks_87 rfl (hQ M' hA)
    | succ k ih =>
      intro M' g hn hA hg
      have hYM : mdl_ M' y := md_sk_mdl hA.1 hY
      have hcom : md_com M' y (30 * p + k) = md_com M y (30 * p + k) := by
        unfold md_com
        rw [hA.2.1 (y + 23) _ (by omega) (by omega), hA.2.1 (y + 20) _ (by omega) (by omega), (hA.2.2.1 (30 * p + k) (fun t h1 h2 => by omega)).1]
      rw [nI_pred k]
      refine wa_iload dX12_asks_10 rfl ?_
      refine wa_if_lt (tgt := 87) dX12_asks_12 (by decide) (fun hT12 => absurd hT12 (nI_pos (by omega))) (fun hF12 => ?_)
      refine wa_bipush (v := 30) dX12_asks_15 (by decide) ?_
      refine wa_iload_n dX12_asks_17 rfl ?_
      refine wa_imul dX12_asks_18 ?_
      refine wa_iload dX12_asks_19 rfl ?_
      refine wa_iadd dX12_asks_21 ?_
      rw [ix_30 p k]
      refine wa_istore dX12_asks_22 (by decide) rfl rfl ?_
      refine wa_aload_n dX12_asks_24 rfl rfl ?_
      refine wa_iload_n dX12_asks_25 rfl ?_
      refine wa_iload dX12_asks_26 rfl ?_
      refine wa_iload_n dX12_asks_28 rfl ?_
      refine wa_callV (q := (RX12, TX12, 50)) (As := [.int (nI p), .int (nI k), .int dd]) dX12_asks_29 lk_X12_268 rfl rfl hYM.1 rfl rfl (Nat.le_of_ble_eq_true rfl) (Nat.le_of_eq (Nat.zero_add _)) (Nat.le_of_eq (Nat.zero_add _)) (k_X12_hasCome p k dd hYM hp (by omega) (fun hC => ?_) (fun hC => ?_))
      · rw [hcom] at hC
        refine wa_if_eq (tgt := 40) dX12_asks_32 (by decide) (fun h9 => absurd h9 (by decide)) (fun _ => ?_)
        refine wa_iconst (v := 1) dX12_asks_35 (by decide) ?_
        refine wa_istore_n dX12_asks_36 (by decide) rfl rfl ?_
        refine wa_goto (tgt := 81) dX12_asks_37 (by decide) ?_
        refine wa_iinc (v := nI k - 1) dX12_asks_81 rfl (ni_m1 _) (by decide) rfl rfl ?_
        refine wa_goto (tgt := 10) dX12_asks_84 (by decide) ?_
        refine wa_set0 5 ?_
        exact ih M' 1 (by omega) (md_ad_k hA (fun q => absurd hC (Int32.not_le.mpr q.1))) ⟨fun _ => ⟨k, Nat.le_refl _, by omega, hC⟩, fun _ => by decide⟩
      · rw [hcom] at hC
        refine wa_if_eq (tgt := 40) dX12_asks_32 (by decide) (fun _ => ?_) (fun h9 => absurd h9 (by decide))
        refine wa_iload_n dX12_asks_40 rfl ?_
        refine wa_if_eq (tgt := 81) dX12_asks_41 (by decide) (fun hT41 => ?_) (fun hF41 => ?_)
        · refine wa_iinc (v := nI k - 1) dX12_asks_81 rfl (ni_m1 _) (by decide) rfl rfl ?_
          refine wa_goto (tgt := 10) dX12_asks_84 (by decide) ?_
          refine wa_set0 5 ?_
          first
            | (exact ih _ g (by omega) (md_ad_u hA ⟨hC, by obtain ⟨u, h1, h2, h3⟩ := hg.mp hF41; exact ⟨u, by omega, h2, h3⟩, by rw [← (hA.2.2.1 (30 * p + k) (fun t h1 h2 => by omega)).2]; exact hF53⟩ (by rw [mm_I_sI, if_neg (by omega), hA.2.1 (y + 14) p (by omega) (by omega)])) ⟨fun q => by obtain ⟨u, h1, h2, h3⟩ := hg.mp q; exact ⟨u, by omega, h2, h3⟩, fun _ => hF41⟩)
            | (exact ih M' g (by omega) (md_ad_k hA (fun q => hT53 (by rw [(hA.2.2.1 (30 * p + k) (fun t h1 h2 => by omega)).2]; exact q.2.2))) ⟨fun q => by obtain ⟨u, h1, h2, h3⟩ := hg.mp q; exact ⟨u, by omega, h2, h3⟩, fun _ => hF41⟩)
            | (exact ih M' g (by omega) (md_ad_k hA (fun q => by obtain ⟨u, h1, h2, h3⟩ := q.2.1; exact (hg.mpr ⟨u, by omega, h2, h3⟩) hT41)) ⟨fun q => absurd hT41 q, fun ⟨u, h1, h2, h3⟩ => by
                rcases Nat.eq_or_lt_of_le h1 with h | h
                · subst h; exact absurd h3 (Int32.not_le.mpr hC)
                · exact hg.mpr ⟨u, by omega, h2, h3⟩⟩)
        · refine wa_aload_n dX12_asks_44 rfl rfl ?_
          refine wa_getR (q := (RX12, TX12, 50)) (ci := 12) (k := 36) dX12_asks_45 rfl (by decide) wf_X12_82 hYM.1 rfl (md_r36 hYM) ?_
          refine wa_iload dX12_asks_48 rfl ?_
          refine wa_ialdN dX12_asks_50 (md_s36 hYM) (Or.inl rfl) (by omega) (by decide) ?_
          refine wa_ldc dX12_asks_51 wl_X12_249 ?_
          refine wa_icmp_ne (tgt := 81) dX12_asks_53 (by decide) (fun hT53 => ?_) (fun hF53 => ?_)
          · refine wa_iinc (v := nI k - 1) dX12_asks_81 rfl (ni_m1 _) (by decide) rfl rfl ?_
            refine wa_goto (tgt := 10) dX12_asks_84 (by decide) ?_
            refine wa_set0 5 ?_
            first
              | (exact ih _ g (by omega) (md_ad_u hA ⟨hC, by obtain ⟨u, h1, h2, h3⟩ := hg.mp hF41; exact ⟨u, by omega, h2, h3⟩, by rw [← (hA.2.2.1 (30 * p + k) (fun t h1 h2 => by omega)).2]; exact hF53⟩ (by rw [mm_I_sI, if_neg (by omega), hA.2.1 (y + 14) p (by omega) (by omega)])) ⟨fun q => by obtain ⟨u, h1, h2, h3⟩ := hg.mp q; exact ⟨u, by omega, h2, h3⟩, fun _ => hF41⟩)
              | (exact ih M' g (by omega) (md_ad_k hA (fun q => hT53 (by rw [(hA.2.2.1 (30 * p + k) (fun t h1 h2 => by omega)).2]; exact q.2.2))) ⟨fun q => by obtain ⟨u, h1, h2, h3⟩ := hg.mp q; exact ⟨u, by omega, h2, h3⟩, fun _ => hF41⟩)
              | (exact ih M' g (by omega) (md_ad_k hA (fun q => by obtain ⟨u, h1, h2, h3⟩ := q.2.1; exact (hg.mpr ⟨u, by omega, h2, h3⟩) hT41)) ⟨fun q => absurd hT41 q, fun ⟨u, h1, h2, h3⟩ => by
                  rcases Nat.eq_or_lt_of_le h1 with h | h
                  · subst h; exact absurd h3 (Int32.not_le.mpr hC)
                  · exact hg.mpr ⟨u, by omega, h2, h3⟩⟩)
          · refine wa_aload_n dX12_asks_56 rfl rfl ?_
            refine wa_getR (q := (RX12, TX12, 50)) (ci := 12) (k := 36) dX12_asks_57 rfl (by decide) wf_X12_82 hYM.1 rfl (md_r36 hYM) ?_
            refine wa_iload dX12_asks_60 rfl ?_
            refine wa_iload_n dX12_asks_62 rfl ?_
            refine wa_iastN dX12_asks_63 (md_s36 hYM) (by omega) (by decide) ?_
            refine wa_aload_n dX12_asks_64 rfl rfl ?_
            refine wa_getR (q := (RX12, TX12, 50)) (ci := 12) (k := 35) dX12_asks_65 rfl (by decide) wf_X12_79 hYM.1 rfl (md_r35 hYM) ?_
            refine wa_iload dX12_asks_68 rfl ?_
            refine wa_iload_n dX12_asks_70 rfl ?_
            refine wa_iconst (v := 2) dX12_asks_71 (by decide) ?_
            refine wa_aload_n dX12_asks_72 rfl rfl ?_
            refine wa_getR (q := (RX12, TX12, 50)) (ci := 12) (k := 28) dX12_asks_73 rfl (by decide) wf_X12_58 hYM.1 rfl (md_r28 hYM) ?_
            refine wa_iload_n dX12_asks_76 rfl ?_
            refine wa_ialdN dX12_asks_77 (md_s28 hYM) (Or.inl rfl) (by omega) (by decide) ?_
            refine wa_imul dX12_asks_78 ?_
            refine wa_iadd dX12_asks_79 ?_
            refine wa_iastN dX12_asks_80 (md_s35 hYM) (by omega) (by decide) ?_
            refine wa_iinc (v := nI k - 1) dX12_asks_81 rfl (ni_m1 _) (by decide) rfl rfl ?_
            refine wa_goto (tgt := 10) dX12_asks_84 (by decide) ?_
            refine wa_set0 5 ?_
            first
              | (exact ih _ g (by omega) (md_ad_u hA ⟨hC, by obtain ⟨u, h1, h2, h3⟩ := hg.mp hF41; exact ⟨u, by omega, h2, h3⟩, by rw [← (hA.2.2.1 (30 * p + k) (fun t h1 h2 => by omega)).2]; exact hF53⟩ (by rw [mm_I_sI, if_neg (by omega), hA.2.1 (y + 14) p (by omega) (by omega)])) ⟨fun q => by obtain ⟨u, h1, h2, h3⟩ := hg.mp q; exact ⟨u, by omega, h2, h3⟩, fun _ => hF41⟩)
              | (exact ih M' g (by omega) (md_ad_k hA (fun q => hT53 (by rw [(hA.2.2.1 (30 * p + k) (fun t h1 h2 => by omega)).2]; exact q.2.2))) ⟨fun q => by obtain ⟨u, h1, h2, h3⟩ := hg.mp q; exact ⟨u, by omega, h2, h3⟩, fun _ => hF41⟩)
              | (exact ih M' g (by omega) (md_ad_k hA (fun q => by obtain ⟨u, h1, h2, h3⟩ := q.2.1; exact (hg.mpr ⟨u, by omega, h2, h3⟩) hT41)) ⟨fun q => absurd hT41 q, fun ⟨u, h1, h2, h3⟩ => by
                  rcases Nat.eq_or_lt_of_le h1 with h | h
                  · subst h; exact absurd h3 (Int32.not_le.mpr hC)
                  · exact hg.mpr ⟨u, by omega, h2, h3⟩⟩)
  refine wa_iconst (v := 0) dX12_asks_0 (by decide) ?_
  refine wa_istore_n dX12_asks_1 (by decide) rfl rfl ?_
  refine wa_aload_n dX12_asks_2 rfl rfl ?_
  refine wa_getI (q := (RX12, TX12, 50)) (ci := 12) (k := 14) dX12_asks_3 rfl (by decide) wf_X12_201 hY.1 rfl ?_
  rw [hT]
  refine wa_iconst (v := 1) dX12_asks_6 (by decide) ?_
  refine wa_isub dX12_asks_7 ?_
  refine wa_istore dX12_asks_8 (by decide) rfl rfl ?_
  exact loop T M 0 (Nat.le_refl _) (md_ad0 M y p T dd) ⟨fun q => absurd rfl q, fun ⟨u, h1, h2, _⟩ => absurd h1 (by omega)⟩
